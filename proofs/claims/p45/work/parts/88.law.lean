theorem oq_b4ae9026 {a0 a1 : Int} {n2 : Nat} (h0 : a0 < 6) (h1 : (a1 + 6) ≤ ((n2 : Nat) : Int)) : (a1 + a0) < ((n2 : Nat) : Int) := by omega
theorem oq_f45e18a5 {n0 n1 n2 n3 : Nat} (h0 : n0 ≤ n1) (h1 : (n2 + n1) ≤ n3) : (n2 + n0) ≤ n3 := by omega
theorem oq_2c59610d {n0 n1 n2 n3 n4 : Nat} (h0 : (n0 + n1) ≤ n2) (h1 : (n3 + n2) ≤ n4) : ((n3 + n0) + n1) ≤ n4 := by omega
theorem oq_14d7aae0 {a0 : Int} {n1 : Nat} (h0 : a0 < ((n1 : Nat) : Int)) (h1 : n1 ≤ 3072) : (a0 : Int).toNat < 2147483648 := by omega
theorem oq_4baa7c92 {n0 : Nat} (h0 : n0 ≤ 3072) : n0 < 2147483648 := by omega

theorem oq_5bf2829b : 8 + 1 ≤ 2048 := by omega
theorem oq_e23742ae : 8 + (6 + 11) + 147 ≤ 84000 := by omega
theorem oq_4d34cb53 : 6 + 1 ≤ 2048 := by omega
theorem oq_e10754c2 : 8 + (8 + 11) + 100 ≤ 84000 := by omega
theorem oq_5bcdc35f {a0 a1 a2 a3 a4 a5 : Int} (h0 : a0 = a1) (h1 : a2 = a3) (h2 : a1 = a4) (h3 : a3 = a5) (h4 : a5 = a4) : a2 = a0 := by omega
theorem oq_5bc06b03 {a0 a1 a2 a3 a4 a5 : Int} (h0 : a0 = a1) (h1 : a2 = a3) (h2 : a1 = a4) (h3 : a5 = a4) (h4 : a3 = a5) : a2 = a0 := by omega
theorem oq_5655e407 : 10 + 1 ≤ 2048 := by omega
theorem oq_0b5c09a5 : 8 + (3 + 11) + 191 ≤ 84000 := by omega
theorem oq_0ed3bd18 : 61 + 1 ≤ 2048 := by omega
theorem oq_735d5381 : 8 + (3 + 11) + 2660 ≤ 84000 := by omega
theorem oq_a32dccc4 : 8 + (1 + 11) + 100 ≤ 84000 := by omega
theorem oq_4e6106eb : 7 + 1 ≤ 2048 := by omega
theorem oq_38d194b9 : 8 + (3 + 11) + 122 ≤ 84000 := by omega
theorem oq_380e4f97 : 8 + (6 + 11) + 122 ≤ 84000 := by omega
theorem oq_ebbf79c1 : 8 + (4 + 11) + 122 ≤ 84000 := by omega
theorem oq_263907be : 8 + (3 + 11) + 146 ≤ 84000 := by omega
theorem oq_2596b3cb : 37 + 1 ≤ 2048 := by omega
theorem oq_93887b04 : 8 + (5 + 11) + 1578 ≤ 84000 := by omega
theorem oq_dead3895 : 39 + 1 ≤ 2048 := by omega
theorem oq_16841511 : 8 + (5 + 11) + 1622 ≤ 84000 := by omega
theorem oq_1d601463 : 9 + 1 ≤ 2048 := by omega
theorem oq_485672f1 : 8 + (2 + 11) + 171 ≤ 84000 := by omega
theorem oq_da2b07c8 : 8 + (6 + 11) + 171 ≤ 84000 := by omega
theorem oq_f75bb075 : 8 + (7 + 11) + 122 ≤ 84000 := by omega
theorem oq_dd1cdbfa : 11 + 1 ≤ 2048 := by omega
theorem oq_c1432001 : 8 + (6 + 11) + 212 ≤ 84000 := by omega
theorem oq_b95bb2bf : 8 + (2 + 11) + 224 ≤ 84000 := by omega
theorem oq_2450e786 : 8 + (2 + 11) + 1622 ≤ 84000 := by omega
theorem oq_f781d9f4 : 12 + 1 ≤ 2048 := by omega
theorem oq_d9c24595 : 8 + (1 + 11) + 237 ≤ 84000 := by omega
theorem oq_2c2f0271 : 41 + 1 ≤ 2048 := by omega
theorem oq_260410fd : 8 + (1 + 11) + 1663 ≤ 84000 := by omega
theorem oq_38aede7b : 42 + 1 ≤ 2048 := by omega
theorem oq_b5fdcedd : 8 + (2 + 11) + 1687 ≤ 84000 := by omega
theorem oq_e190c71b : 8 + (3 + 11) + 1687 ≤ 84000 := by omega
theorem oq_a3fac05c : 38 + 1 ≤ 2048 := by omega
theorem oq_e81fc71d : 8 + (3 + 11) + 1601 ≤ 84000 := by omega
theorem oq_8731b8c0 : 8 + (2 + 11) + 100 ≤ 84000 := by omega
theorem oq_3eb7c1bb {a0 a1 a2 : Int} (h0 : a0 = a1) (h1 : 0 ≤ a2) (h2 : a1 = 0) (h3 : a2 = 0) (h4 : 0 ≤ a1) : a0 = a2 := by omega
theorem oq_f09e007f : 8 + (2 + 11) + 122 ≤ 84000 := by omega
theorem oq_e623282d {a0 a1 a2 a3 a4 a5 a6 a7 a8 a9 a10 : Int} (h0 : a0 ≤ 6) (h1 : a1 = a2) (h2 : ((0 ≤ a3 ∧ (a3 < 16777216 ∧ (a4 = 0 ∧ ((a5 = 6 ∧ (a6 = (-1) ∧ a0 = 6)) ∨ (a5 ≠ 6 ∧ (a6 = a5 ∧ a0 = (a5 + 1))))))) ∨ ((a3 < 0 ∨ 16777216 ≤ a3) ∧ (a4 = 1 ∧ a0 = a5)))) (h3 : ((a7 = 0 ∧ (0 ≤ a3 ∧ (a3 < 16777216 ∧ ((a8 = 6 ∧ (a9 = (-1) ∧ a2 = 6)) ∨ (a8 ≠ 6 ∧ (a9 = a8 ∧ a2 = (a8 + 1))))))) ∨ (a7 = 1 ∧ ((a3 < 0 ∨ 16777216 ≤ a3) ∧ a2 = a8)))) (h4 : a5 = a10) (h5 : a2 ≤ 6) (h6 : a8 = a10) : a1 = a0 := by omega
theorem oq_03e28196 : 62 + 1 ≤ 2048 := by omega
theorem oq_1f8b0a4c : 8 + (3 + 11) + 2686 ≤ 84000 := by omega
theorem oq_e8f78630 {a0 a1 a2 : Int} (h0 : 1 ≤ a0) (h1 : (a1 = 1 → a0 = 1)) (h2 : a1 = a2) (h3 : 1 ≤ a2) (h4 : a2 = 1) : a0 = 1 := by omega
theorem oq_5cbe2cb6 : 64 + 1 ≤ 2048 := by omega
theorem oq_276d7037 : 8 + (6 + 11) + 2742 ≤ 84000 := by omega
theorem oq_31d93303 : 8 + (4 + 11) + 2742 ≤ 84000 := by omega
theorem oq_151ba25b : 8 + (3 + 11) + 2742 ≤ 84000 := by omega
theorem oq_c67cc45d : 73 + 1 ≤ 2048 := by omega
theorem oq_f40e0be7 : 8 + (7 + 11) + 3227 ≤ 84000 := by omega
theorem oq_f8649f31 : 8 + (6 + 11) + 189 ≤ 84000 := by omega
theorem oq_90882f71 {a0 a1 a2 a3 a4 a5 a6 a7 a8 a9 a10 a11 a12 : Int} (h0 : a0 ≤ 40) (h1 : a1 = a2) (h2 : ((0 ≤ a3 ∧ (a3 ≤ 7 ∧ (0 ≤ a4 ∧ (a4 ≤ 23 ∧ (0 ≤ a5 ∧ (a5 ≤ 9999 ∧ (a6 = 0 ∧ ((a7 = 40 ∧ (a8 = (-1) ∧ a0 = 40)) ∨ (a7 ≠ 40 ∧ (a8 = a7 ∧ a0 = (a7 + 1))))))))))) ∨ ((a3 < 0 ∨ (7 < a3 ∨ (a4 < 0 ∨ (23 < a4 ∨ (a5 < 0 ∨ 9999 < a5))))) ∧ (a6 = 1 ∧ a0 = a7)))) (h3 : ((a9 = 0 ∧ (0 ≤ a3 ∧ (a3 ≤ 7 ∧ (0 ≤ a4 ∧ (a4 ≤ 23 ∧ (0 ≤ a5 ∧ (a5 ≤ 9999 ∧ ((a10 = 40 ∧ (a11 = (-1) ∧ a2 = 40)) ∨ (a10 ≠ 40 ∧ (a11 = a10 ∧ a2 = (a10 + 1))))))))))) ∨ (a9 = 1 ∧ ((a3 < 0 ∨ (7 < a3 ∨ (a4 < 0 ∨ (23 < a4 ∨ (a5 < 0 ∨ 9999 < a5))))) ∧ a2 = a10)))) (h4 : a7 = a12) (h5 : a2 ≤ 40) (h6 : a10 = a12) : a1 = a0 := by omega
theorem oq_8fd475f0 : 8 + (7 + 11) + 145 ≤ 84000 := by omega
theorem oq_d572abc1 : 8 + (10 + 11) + 1578 ≤ 84000 := by omega
theorem oq_b102b2ee : 8 + (6 + 11) + 1663 ≤ 84000 := by omega
theorem oq_24286ecc : 8 + (4 + 11) + 123 ≤ 84000 := by omega
theorem oq_23aa4b49 : 8 + (1 + 11) + 120 ≤ 84000 := by omega
theorem oq_6fd3db4b : 8 + (1 + 11) + 147 ≤ 84000 := by omega
theorem oq_ca72eefc : 8 + (2 + 11) + 143 ≤ 84000 := by omega
/-! The law's loop: a call of class and model each round -/
/-- the script's int at i -/
def sc (xs : Nat → Int32) (i : Int) : Int := (xs i.toNat).toInt
theorem sc_rng {xs : Nat → Int32} {i : Int} : rng (sc xs i) := rng_to _
/-- the script, as the law's activation sees it -/
def SX (k : kx_T) (b L : Nat) (xs : Nat → Int32) : Prop := va_X b L xs (kS k) (kS k).heap ∧ b < (kS k).heap.size ∧ ¬ kF k b
section ZS
variable {k : kx_T} {mn pc : Nat} {dT : Nat → ClassId} {lv : List (Nat × Value)} {st : List Value} {ws : va_W} {ce sl a b0 b L : Nat} {z : Int} {xs : Nat → Int32}
theorem sx_in {i c : Int} {L : Nat} (h : 0 ≤ i ∧ i + 6 ≤ (L : Int)) (k : 0 ≤ c ∧ c < 6) : 0 ≤ i + c ∧ i + c < (L : Int) := by first | exact And.intro (oq_d8d6a599 k.1 h.1) (oq_b4ae9026 k.2 h.2) | omega
theorem rmo_1 {x a b n : Nat} (h : x + b ≤ n) (k : a ≤ b) : x + a ≤ n := by first | exact oq_f45e18a5 k h | omega
theorem rmo_2 {x a c b n : Nat} (h : x + b ≤ n) (k : c + a ≤ b) : x + c + a ≤ n := by first | exact oq_2c59610d k h | omega
theorem z_sld (X : AX k mn dT) (S : SX k b L xs) (hL : L ≤ 3072) {i : Int} (h : cdA mn pc = some (.iaload, 1, a, b0, z)) (hi : 0 ≤ i ∧ i < (L : Int)) (g : WS k (pc + 1) lv (.int (Int32.ofInt (sc xs i)) :: st) ws ce sl) : WS k pc lv (.int (Int32.ofInt i) :: .ref b :: st) ws ce sl := by
  have e : xs (Int32.ofInt i).toNatClampNeg = Int32.ofInt (sc xs i) := by
    rw [on_of hi.1, on_cl (by first | exact oq_14d7aae0 hi.2 hL | omega)]
    exact (ofi_to _).symm
  rw [on_of hi.1] at e ⊢
  refine w_sld X.1 S.1 S.2.1 S.2.2 (on_in (by first | exact oq_58be8290 hi.2 hi.1 | omega) (by first | exact oq_4baa7c92 hL | omega)) (ax_d X h) ?_
  rw [e]
  exact g
theorem z_slen (X : AX k mn dT) (S : SX k b L xs) (hL : L ≤ 3072) (h : cdA mn pc = some (.arraylength, 1, a, b0, z)) (g : WS k (pc + 1) lv (.int (Int32.ofInt (L : Int)) :: st) ws ce sl) : WS k pc lv (.ref b :: st) ws ce sl := by
  refine w_slen X.1 S.1 S.2.1 S.2.2 (ax_d X h) ?_
  have e : Int32.ofNat L = Int32.ofInt (L : Int) := by
    have h9 := on_of (z := (L : Int)) (by first | exact oq_a3593015 | omega)
    have h8 : ((L : Int)).toNat = L := by first | exact oq_3d866207 | omega
    rw [h8] at h9
    exact h9.symm
  rw [e]
  exact g
theorem z_lO {A : Nat → Nat} {s : PS} (X : AX k mn dT) (h : cdA mn pc = some (.laload, 1, 0, 0, 0)) (g : WS k (pc + 1) lv (.long (gD s 460 0) :: st) (Wd A dT s) ce sl) : WS k pc lv (.int (Int32.ofInt 0) :: .ref (A 517) :: st) (Wd A dT s) ce sl :=
  s_lald X 517 (n := 1) (a := 460) (i := 0) h (by decide) rfl (by decide) (by decide) g
theorem lcmp_0 {x y : Int64} : lg_cmp x y = 0 ↔ x = y := lg_cmp_eq x y
theorem z_lc {s : PS} {b : Int} (hb : rng b) (g : ∀ c : Int, rng c → ((c = 0 ∧ iO s = b) ∨ (c ≠ 0 ∧ iO s ≠ b)) → WS k pc lv (.int (Int32.ofInt c) :: st) ws ce sl) : WS k pc lv (.int (lg_cmp (gD s 460 0) (Int32.ofInt b).toInt64) :: st) ws ce sl := by
  have h9 := g (lg_cmp (gD s 460 0) (Int32.ofInt b).toInt64).toInt (rng_to _)
  rw [ofi_to] at h9
  refine h9 ?_
  have e1 : (Int32.ofInt b).toInt64.toInt = b := by rw [Int32.toInt_toInt64, zi hb]
  by_cases q : gD s 460 0 = (Int32.ofInt b).toInt64
  · refine Or.inl ⟨by rw [lcmp_0.mpr q]; rfl, ?_⟩
    show (gD s 460 0).toInt = b
    rw [q, e1]
  · refine Or.inr ⟨fun z => q (lcmp_0.mp (Int32.toInt_inj.mp (show _ = (0 : Int32).toInt from z))), fun z => q (Int64.toInt_inj.mp ?_)⟩
    rw [e1]
    exact z
end ZS
theorem APJ_fm {L M : List Nat} {s t : PS} (F : Fm L M s t) (h : 21 ∉ M ∧ 228 ∉ M) (r : AEQ 21 228 128 s) : AEQ 21 228 128 t := aeq_sam r (sam_fm F h.1) (sam_fm F h.2)
theorem ALJ_fm {L M : List Nat} {s t : PS} (F : Fm L M s t) (h : 24 ∉ M ∧ 229 ∉ M) (r : AEQ 24 229 8 s) : AEQ 24 229 8 t := aeq_sam r (sam_fm F h.1) (sam_fm F h.2)
def ARJ (s : PS) : Prop := WQJ s ∧ LIJ s ∧ MQJ s ∧ NZJ s ∧ TWJ s ∧ AIR s ∧ CPL s ∧ RLJ s
theorem ARJ_fm {L M : List Nat} {s t : PS} (F : Fm L M s t) (h : ((9 ∉ L ∧ 2 ∉ M ∧ 1 ∉ M ∧ 162 ∉ M) ∧ ∀ j, j < 12 → 166 + j ∉ M) ∧ (90 ∉ L ∧ 162 ∉ M ∧ ∀ i, i < 12 → 166 + i ∉ M ∧ 178 + i ∉ M) ∧ ((8 ∉ M ∧ 10 ∉ M ∧ 9 ∉ M ∧ 11 ∉ M ∧ 12 ∉ M) ∧ (∀ j, j < 12 → 190 + j ∉ M) ∧ 163 ∉ M ∧ 164 ∉ M) ∧ (9 ∉ L ∧ 8 ∉ M) ∧ (9 ∉ L ∧ 14 ∉ M ∧ 11 ∉ M) ∧ (9 ∉ L ∧ 1 ∉ M ∧ 2 ∉ M ∧ 3 + 1000 ∉ M ∧ 4 + 1000 ∉ M ∧ 5 + 1000 ∉ M) ∧ ((9 ∉ L ∧ 10 ∉ L) ∧ 6 ∉ M ∧ 7 + 1000 ∉ M ∧ 3 + 1000 ∉ M ∧ 4 + 1000 ∉ M) ∧ ((85 ∉ L ∧ 82 ∉ L ∧ 158 ∉ M) ∧ (13 ∉ L ∧ 15 ∉ L) ∧ 17 ∉ M ∧ 16 ∉ M)) (r : ARJ s) : ARJ t := ⟨WQJ_fm F h.1 r.1, LIJ_fm F h.2.1 r.2.1, MQJ_fm F h.2.2.1 r.2.2.1, NZJ_fm F h.2.2.2.1 r.2.2.2.1, TWJ_fm F h.2.2.2.2.1 r.2.2.2.2.1, AIR_fm F h.2.2.2.2.2.1 r.2.2.2.2.2.1, CPL_fm F h.2.2.2.2.2.2.1 r.2.2.2.2.2.2.1, RLJ_fm F h.2.2.2.2.2.2.2 r.2.2.2.2.2.2.2⟩
def PTJ (s : PS) : Prop := PMJ s ∧ AEQ 21 228 128 s ∧ AEQ 24 229 8 s ∧ MKJ s
theorem PTJ_fm {L M : List Nat} {s t : PS} (F : Fm L M s t) (h : (21 ∉ M ∧ 22 + 1000 ∉ M ∧ 23 + 1000 ∉ M) ∧ (21 ∉ M ∧ 228 ∉ M) ∧ (24 ∉ M ∧ 229 ∉ M) ∧ (20 ∉ L ∧ 25 ∉ M ∧ ∀ i, i < 4 → 241 + i ∉ M)) (r : PTJ s) : PTJ t := ⟨PMJ_fm F h.1 r.1, APJ_fm F h.2.1 r.2.1, ALJ_fm F h.2.2.1 r.2.2.1, MKJ_fm F h.2.2.2 r.2.2.2⟩
theorem REQ_fm {L M : List Nat} {s t : PS} (F : Fm L M s t) (h : 28 ∉ L ∧ 39 ∉ M ∧ 234 ∉ M) (r : REQ 39 234 28 s) : REQ 39 234 28 t := req_sam r (sam_fm F h.2.1) (sam_fm F h.2.2) (fm_i F h.1)
theorem SEQ_fm {L M : List Nat} {s t : PS} (F : Fm L M s t) (h : 1000 ∉ L ∧ 1001 ∉ L ∧ 399 ∉ M) (r : SEQ s) : SEQ t := seq_same r (sbs_fm F ⟨h.1, h.2.1⟩) (sam_fm F h.2.2)
section M88
variable {l : Launch} {s0 : State} {D : va_G} {tys : List (ClassId × FieldType)} {a0 : Array Value} {A : Nat → Nat} {dT : Nat → ClassId} {s : PS}
theorem lc_0 (G : GX l s0 D tys a0 dT) (GR : RS0 s0) (SF : SF0 s0) (GT : TXs0 s0) (GW : TXw0 s0) {k : kx_T} (X : AX k 350 dT) (E : kL k = l ∧ kS0 k = s0 ∧ kD k = D ∧ kR k = room_1) {q1 L : Nat} {xs : Nat → Int32} (S : SX k q1 L xs) (hL : L ≤ 3072) (I : Bd s) (jR : RLx s) (jFEQ : FEQ s) (jREQ : REQ 39 234 28 s) (jSEQ : SEQ s) (jARJ : ARJ s) (jPTJ : PTJ s) (p1 : iI s 89 = 1) (p2 : iI s 12 ≤ 8) (p3 : iI s 0 = iI s 74) (p4 : iI s 9 = iI s 90) (p5 : iI s 20 = iI s 98) (p6 : iI s 28 = iI s 97) (p7 : iI s 32 = iI s 99) (p8 : iI s 70 = iI s 107) (p9 : iI s 12 = iI s 83) {i : Int} (hi : 0 ≤ i ∧ i + 6 ≤ (L : Int)) {ce sl : Nat} (hce : ce + 29 ≤ 601024) (hsl : sl + 222 ≤ 7293034) (hk : ∀ (A : Nat → Nat) (t : PS), Bd t → RLx t → FEQ t → REQ 39 234 28 t → SEQ t → ARJ t → PTJ t → iI t 89 = 1 → iI t 12 ≤ 8 → iI t 0 = iI t 74 → iI t 9 = iI t 90 → iI t 20 = iI t 98 → iI t 28 = iI t 97 → iI t 32 = iI t 99 → iI t 70 = iI t 107 → iI t 12 = iI t 83 → WS k 1866 [(0, .ref q1), (1, .ref (A 0)), (2, .ref (A 179)), (3, .ref (A 517)), (4, .int (Int32.ofInt i))] [] (Wd A dT t) (ce + 29) (sl + 222)) : WS k 232 [(0, .ref q1), (1, .ref (A 0)), (2, .ref (A 179)), (3, .ref (A 517)), (4, .int (Int32.ofInt i))] [] (Wd A dT s) ce sl := by
  have F : Fm [0, 73, 74] [0, 157] s s := fm_rf _ _ s
  have b1 := bi_0 I
  have b2 := bi_74 I
  have b3 := bi_9 I
  have b4 := bi_90 I
  have b5 := bi_20 I
  have b6 := bi_98 I
  have b7 := bi_28 I
  have b8 := bi_97 I
  have b9 := bi_32 I
  have b10 := bi_99 I
  have b11 := bi_70 I
  have b12 := bi_107 I
  have b13 := bi_12 I
  have b14 := bi_83 I
  have b15 := bi_12 I
  have b16 := bi_89 I
  refine z_aload_n X (x := A 0) rfl (List.Mem.tail _ (List.Mem.head _)) (z_aload_n X (x := q1) rfl (List.Mem.head _) (z_load X (x := i) rfl (List.Mem.tail _ (List.Mem.tail _ (List.Mem.tail _ (List.Mem.tail _ (List.Mem.head _))))) (z_const X rfl (z_add X rfl (z_sld X S hL rfl (show 0 ≤ (i + 1) ∧ (i + 1) < (L : Int) by first | exact sx_in hi (by decide) | omega) ?_)))))
  have sr17 : rng (sc xs (i + 1)) := sc_rng
  refine z_aload_n X (x := q1) rfl (List.Mem.head _) (z_load X (x := i) rfl (List.Mem.tail _ (List.Mem.tail _ (List.Mem.tail _ (List.Mem.tail _ (List.Mem.head _))))) (z_const X rfl (z_add X rfl (z_sld X S hL rfl (show 0 ≤ (i + 2) ∧ (i + 2) < (L : Int) by first | exact sx_in hi (by decide) | omega) ?_))))
  have sr18 : rng (sc xs (i + 2)) := sc_rng
  refine z_aload_n X (x := q1) rfl (List.Mem.head _) (z_load X (x := i) rfl (List.Mem.tail _ (List.Mem.tail _ (List.Mem.tail _ (List.Mem.tail _ (List.Mem.head _))))) (z_const X rfl (z_add X rfl (z_sld X S hL rfl (show 0 ≤ (i + 3) ∧ (i + 3) < (L : Int) by first | exact sx_in hi (by decide) | omega) ?_))))
  have sr19 : rng (sc xs (i + 3)) := sc_rng
  refine z_aload_n X (x := q1) rfl (List.Mem.head _) (z_load X (x := i) rfl (List.Mem.tail _ (List.Mem.tail _ (List.Mem.tail _ (List.Mem.tail _ (List.Mem.head _))))) (z_const X rfl (z_add X rfl (z_sld X S hL rfl (show 0 ≤ (i + 4) ∧ (i + 4) < (L : Int) by first | exact sx_in hi (by decide) | omega) ?_))))
  have sr20 : rng (sc xs (i + 4)) := sc_rng
  refine z_aload_n X (x := q1) rfl (List.Mem.head _) (z_load X (x := i) rfl (List.Mem.tail _ (List.Mem.tail _ (List.Mem.tail _ (List.Mem.tail _ (List.Mem.head _))))) (z_const X rfl (z_add X rfl (z_sld X S hL rfl (show 0 ≤ (i + 5) ∧ (i + 5) < (L : Int) by first | exact sx_in hi (by decide) | omega) ?_))))
  have sr21 : rng (sc xs (i + 5)) := sc_rng
  refine z_callV X 0 (rm := rmN 135) (As := [.int (Int32.ofInt (sc xs (i + 1))), .int (Int32.ofInt (sc xs (i + 2))), .int (Int32.ofInt (sc xs (i + 3))), .int (Int32.ofInt (sc xs (i + 4))), .int (Int32.ofInt (sc xs (i + 5)))]) (st := []) rfl rfl (by decide) rfl (by rw [E.1, E.2.1, E.2.2.1]; exact cs_feed2 G I (by first | exact ⟨sr17.1, sr17.2⟩ | omega) (by first | exact ⟨sr18.1, sr18.2⟩ | omega) (by first | exact ⟨sr19.1, sr19.2⟩ | omega) (by first | exact ⟨sr20.1, sr20.2⟩ | omega) (by first | exact ⟨sr21.1, sr21.2⟩ | omega)) ⟨by rw [E.2.2.2]; exact (show 8 + 1 ≤ 2048 from oq_5bf2829b), by rw [E.2.2.2]; exact (show 8 + (6 + 11) + 147 ≤ 84000 from oq_e23742ae), by rw [E.2.2.2]; exact (show ce + 0 ≤ 601024 by omega), by rw [E.2.2.2]; exact (show sl + 0 ≤ 7293034 by omega)⟩ (Nat.le_of_ble_eq_true rfl) (fun vv s22 hq => ?_) (fun ee s22 hq => ?_)
  rotate_left
  · obtain ⟨Is22, Fs22, e23, hv, hrs22, hps22⟩ := hq; cases hv
  obtain ⟨Is22, Fs22, e23, hv, hrs22, hps22⟩ := hq
  cases hv
  have JRLx_s22 : RLx s22 := RLx_fm Fs22 (by decide) jR
  have JREQ_s22 : REQ 39 234 28 s22 := REQ_fm Fs22 (by decide) jREQ
  have JSEQ_s22 : SEQ s22 := SEQ_fm Fs22 (by decide) jSEQ
  have JARJ_s22 : ARJ s22 := ARJ_fm Fs22 ⟨by decide +kernel, by decide +kernel, by decide +kernel, by decide +kernel, by decide +kernel, by decide +kernel, by decide +kernel, by decide +kernel⟩ jARJ
  have JPTJ_s22 : PTJ s22 := PTJ_fm Fs22 (by decide +kernel) jPTJ
  have b24 := bi_0 Is22
  have ws22_74 : iI s22 74 = iI s 74 := fm_iq Fs22 rfl
  have ws22_9 : iI s22 9 = iI s 9 := fm_iq Fs22 rfl
  have ws22_90 : iI s22 90 = iI s 90 := fm_iq Fs22 rfl
  have ws22_20 : iI s22 20 = iI s 20 := fm_iq Fs22 rfl
  have ws22_98 : iI s22 98 = iI s 98 := fm_iq Fs22 rfl
  have ws22_28 : iI s22 28 = iI s 28 := fm_iq Fs22 rfl
  have ws22_97 : iI s22 97 = iI s 97 := fm_iq Fs22 rfl
  have ws22_32 : iI s22 32 = iI s 32 := fm_iq Fs22 rfl
  have ws22_99 : iI s22 99 = iI s 99 := fm_iq Fs22 rfl
  have ws22_70 : iI s22 70 = iI s 70 := fm_iq Fs22 rfl
  have ws22_107 : iI s22 107 = iI s 107 := fm_iq Fs22 rfl
  have ws22_12 : iI s22 12 = iI s 12 := fm_iq Fs22 rfl
  have ws22_83 : iI s22 83 = iI s 83 := fm_iq Fs22 rfl
  have ws22_12 : iI s22 12 = iI s 12 := fm_iq Fs22 rfl
  have ws22_89 : iI s22 89 = iI s 89 := fm_iq Fs22 rfl
  have wos22 : iO s22 = iO s := fm_o Fs22 (by decide)
  show WS k 266 [(0, .ref q1), (1, .ref (A 0)), (2, .ref (A 179)), (3, .ref (A 517)), (4, .int (Int32.ofInt i))] [.int (Int32.ofInt e23)] (Wd A dT s22) ce sl
  refine w_pop X.1 (ax_d X (show cdA 350 266 = some (.pop, 1, 0, 0, 0) from rfl)) rfl (z_aload_n X (x := A 179) rfl (List.Mem.tail _ (List.Mem.tail _ (List.Mem.head _))) (z_aload_n X (x := q1) rfl (List.Mem.head _) (z_load X (x := i) rfl (List.Mem.tail _ (List.Mem.tail _ (List.Mem.tail _ (List.Mem.tail _ (List.Mem.head _))))) (z_const X rfl (z_add X rfl (z_sld X S hL rfl (show 0 ≤ (i + 1) ∧ (i + 1) < (L : Int) by first | exact sx_in hi (by decide) | omega) ?_))))))
  have sr25 : rng (sc xs (i + 1)) := sc_rng
  refine z_aload_n X (x := q1) rfl (List.Mem.head _) (z_load X (x := i) rfl (List.Mem.tail _ (List.Mem.tail _ (List.Mem.tail _ (List.Mem.tail _ (List.Mem.head _))))) (z_const X rfl (z_add X rfl (z_sld X S hL rfl (show 0 ≤ (i + 2) ∧ (i + 2) < (L : Int) by first | exact sx_in hi (by decide) | omega) ?_))))
  have sr26 : rng (sc xs (i + 2)) := sc_rng
  refine z_aload_n X (x := q1) rfl (List.Mem.head _) (z_load X (x := i) rfl (List.Mem.tail _ (List.Mem.tail _ (List.Mem.tail _ (List.Mem.tail _ (List.Mem.head _))))) (z_const X rfl (z_add X rfl (z_sld X S hL rfl (show 0 ≤ (i + 3) ∧ (i + 3) < (L : Int) by first | exact sx_in hi (by decide) | omega) ?_))))
  have sr27 : rng (sc xs (i + 3)) := sc_rng
  refine z_aload_n X (x := q1) rfl (List.Mem.head _) (z_load X (x := i) rfl (List.Mem.tail _ (List.Mem.tail _ (List.Mem.tail _ (List.Mem.tail _ (List.Mem.head _))))) (z_const X rfl (z_add X rfl (z_sld X S hL rfl (show 0 ≤ (i + 4) ∧ (i + 4) < (L : Int) by first | exact sx_in hi (by decide) | omega) ?_))))
  have sr28 : rng (sc xs (i + 4)) := sc_rng
  refine z_aload_n X (x := q1) rfl (List.Mem.head _) (z_load X (x := i) rfl (List.Mem.tail _ (List.Mem.tail _ (List.Mem.tail _ (List.Mem.tail _ (List.Mem.head _))))) (z_const X rfl (z_add X rfl (z_sld X S hL rfl (show 0 ≤ (i + 5) ∧ (i + 5) < (L : Int) by first | exact sx_in hi (by decide) | omega) ?_))))
  have sr29 : rng (sc xs (i + 5)) := sc_rng
  refine z_callV X 179 (rm := rmN 191) (As := [.int (Int32.ofInt (sc xs (i + 1))), .int (Int32.ofInt (sc xs (i + 2))), .int (Int32.ofInt (sc xs (i + 3))), .int (Int32.ofInt (sc xs (i + 4))), .int (Int32.ofInt (sc xs (i + 5)))]) (st := []) rfl rfl (by decide) rfl (by rw [E.1, E.2.1, E.2.2.1]; exact k_feed2 G Is22 (by first | exact ⟨sr25.1, sr25.2⟩ | omega) (by first | exact ⟨sr26.1, sr26.2⟩ | omega) (by first | exact ⟨sr27.1, sr27.2⟩ | omega) (by first | exact ⟨sr28.1, sr28.2⟩ | omega) (by first | exact ⟨sr29.1, sr29.2⟩ | omega)) ⟨by rw [E.2.2.2]; exact (show 6 + 1 ≤ 2048 from oq_4d34cb53), by rw [E.2.2.2]; exact (show 8 + (8 + 11) + 100 ≤ 84000 from oq_e10754c2), by rw [E.2.2.2]; exact (show ce + 0 ≤ 601024 by first | (clear hps22; omega) | omega), by rw [E.2.2.2]; exact (show sl + 0 ≤ 7293034 by first | (clear hps22; omega) | omega)⟩ (Nat.le_of_ble_eq_true rfl) (fun vv s30 hq => ?_) (fun ee s30 hq => ?_)
  rotate_left
  · obtain ⟨Is30, Fs30, e31, hv, hrs30, hps30⟩ := hq; cases hv
  obtain ⟨Is30, Fs30, e31, hv, hrs30, hps30⟩ := hq
  cases hv
  have JRLx_s30 : RLx s30 := RLx_fm Fs30 (by decide) JRLx_s22
  have JREQ_s30 : REQ 39 234 28 s30 := REQ_fm Fs30 (by decide) JREQ_s22
  have JSEQ_s30 : SEQ s30 := SEQ_fm Fs30 (by decide) JSEQ_s22
  have JARJ_s30 : ARJ s30 := ARJ_fm Fs30 ⟨by decide +kernel, by decide +kernel, by decide +kernel, by decide +kernel, by decide +kernel, by decide +kernel, by decide +kernel, by decide +kernel⟩ JARJ_s22
  have JPTJ_s30 : PTJ s30 := PTJ_fm Fs30 (by decide +kernel) JPTJ_s22
  have ws30_0 : iI s30 0 = iI s22 0 := fm_iq Fs30 rfl
  have b32 := bi_74 Is30
  have ws30_9 : iI s30 9 = iI s22 9 := fm_iq Fs30 rfl
  have ws30_90 : iI s30 90 = iI s22 90 := fm_iq Fs30 rfl
  have ws30_20 : iI s30 20 = iI s22 20 := fm_iq Fs30 rfl
  have ws30_98 : iI s30 98 = iI s22 98 := fm_iq Fs30 rfl
  have ws30_28 : iI s30 28 = iI s22 28 := fm_iq Fs30 rfl
  have ws30_97 : iI s30 97 = iI s22 97 := fm_iq Fs30 rfl
  have ws30_32 : iI s30 32 = iI s22 32 := fm_iq Fs30 rfl
  have ws30_99 : iI s30 99 = iI s22 99 := fm_iq Fs30 rfl
  have ws30_70 : iI s30 70 = iI s22 70 := fm_iq Fs30 rfl
  have ws30_107 : iI s30 107 = iI s22 107 := fm_iq Fs30 rfl
  have ws30_12 : iI s30 12 = iI s22 12 := fm_iq Fs30 rfl
  have ws30_83 : iI s30 83 = iI s22 83 := fm_iq Fs30 rfl
  have ws30_12 : iI s30 12 = iI s22 12 := fm_iq Fs30 rfl
  have ws30_89 : iI s30 89 = iI s22 89 := fm_iq Fs30 rfl
  have wos30 : iO s30 = iO s22 := fm_o Fs30 (by decide)
  show WS k 301 [(0, .ref q1), (1, .ref (A 0)), (2, .ref (A 179)), (3, .ref (A 517)), (4, .int (Int32.ofInt i))] [.int (Int32.ofInt e31)] (Wd A dT s30) ce sl
  rcases hps22 with cc | cc
  ·
    rcases hps30 with mm | mm
    ·
      have jq33 : FEQ s30 := feq_up jFEQ cc.2.2.2 (sam_fm Fs22 (by decide)) mm.2.2.2 (sam_fm Fs30 (by decide)) (by first | (clear hps30 hps22; omega) | (clear hps22; omega) | omega) (by first | (clear hps30 hps22; omega) | (clear hps22; omega) | omega)
      refine w_pop X.1 (ax_d X (show cdA 350 301 = some (.pop, 1, 0, 0, 0) from rfl)) rfl (z_goto X (t := 1866) rfl rfl (w_widen (ce' := ce + 29) (sl' := sl + 222) (by first | exact Nat.le_add_right _ _ | exact Nat.add_le_add_left (by decide) _ | omega) (by first | exact Nat.le_add_right _ _ | exact Nat.add_le_add_left (by decide) _ | omega) ?_))
      exact WS_lv (lv := [(0, .ref q1), (1, .ref (A 0)), (2, .ref (A 179)), (3, .ref (A 517)), (4, .int (Int32.ofInt i))]) (List.forall_mem_cons.mpr ⟨(List.Mem.head _), (List.forall_mem_cons.mpr ⟨(List.Mem.tail _ (List.Mem.head _)), (List.forall_mem_cons.mpr ⟨(List.Mem.tail _ (List.Mem.tail _ (List.Mem.head _))), (List.forall_mem_cons.mpr ⟨(List.Mem.tail _ (List.Mem.tail _ (List.Mem.tail _ (List.Mem.head _)))), (List.forall_mem_cons.mpr ⟨(List.Mem.tail _ (List.Mem.tail _ (List.Mem.tail _ (List.Mem.tail _ (List.Mem.head _))))), (fun q h => absurd h List.not_mem_nil)⟩)⟩)⟩)⟩)⟩) (hk A _ Is30 JRLx_s30 jq33 JREQ_s30 JSEQ_s30 JARJ_s30 JPTJ_s30 (by first | exact oq_f34933ba ws30_89 ws22_89 p1 b16.1 | omega) (by first | exact oq_d7ce4408 ws30_12 ws22_12 p2 | omega) (by first | (clear hps30 hps22; omega) | (clear hps22; omega) | omega) (by first | exact oq_5bcdc35f ws30_90 ws30_9 ws22_90 ws22_9 p4 | omega) (by first | exact oq_5bcdc35f ws30_98 ws30_20 ws22_98 ws22_20 p5 | omega) (by first | exact oq_5bcdc35f ws30_97 ws30_28 ws22_97 ws22_28 p6 | omega) (by first | exact oq_5bcdc35f ws30_99 ws30_32 ws22_99 ws22_32 p7 | omega) (by first | exact oq_5bcdc35f ws30_107 ws30_70 ws22_107 ws22_70 p8 | omega) (by first | exact oq_5bc06b03 ws30_83 ws30_12 ws22_83 p9 ws22_12 | omega))
    ·
      exfalso
      omega
  ·
    rcases hps30 with mm | mm
    ·
      exfalso
      omega
    ·
      have jq34 : FEQ s30 := feq_sam jFEQ (sam_ts (sam_fm Fs22 (by decide)) mm.2.2.2) (sam_ts cc.2.2.2 (sam_fm Fs30 (by decide)))
      refine w_pop X.1 (ax_d X (show cdA 350 301 = some (.pop, 1, 0, 0, 0) from rfl)) rfl (z_goto X (t := 1866) rfl rfl (w_widen (ce' := ce + 29) (sl' := sl + 222) (by first | exact Nat.le_add_right _ _ | exact Nat.add_le_add_left (by decide) _ | omega) (by first | exact Nat.le_add_right _ _ | exact Nat.add_le_add_left (by decide) _ | omega) ?_))
      exact WS_lv (lv := [(0, .ref q1), (1, .ref (A 0)), (2, .ref (A 179)), (3, .ref (A 517)), (4, .int (Int32.ofInt i))]) (List.forall_mem_cons.mpr ⟨(List.Mem.head _), (List.forall_mem_cons.mpr ⟨(List.Mem.tail _ (List.Mem.head _)), (List.forall_mem_cons.mpr ⟨(List.Mem.tail _ (List.Mem.tail _ (List.Mem.head _))), (List.forall_mem_cons.mpr ⟨(List.Mem.tail _ (List.Mem.tail _ (List.Mem.tail _ (List.Mem.head _)))), (List.forall_mem_cons.mpr ⟨(List.Mem.tail _ (List.Mem.tail _ (List.Mem.tail _ (List.Mem.tail _ (List.Mem.head _))))), (fun q h => absurd h List.not_mem_nil)⟩)⟩)⟩)⟩)⟩) (hk A _ Is30 JRLx_s30 jq34 JREQ_s30 JSEQ_s30 JARJ_s30 JPTJ_s30 (by first | exact oq_f34933ba ws30_89 ws22_89 p1 b16.1 | omega) (by first | exact oq_d7ce4408 ws30_12 ws22_12 p2 | omega) (by first | (clear hps30 hps22; omega) | (clear hps22; omega) | omega) (by first | exact oq_5bcdc35f ws30_90 ws30_9 ws22_90 ws22_9 p4 | omega) (by first | exact oq_5bcdc35f ws30_98 ws30_20 ws22_98 ws22_20 p5 | omega) (by first | exact oq_5bcdc35f ws30_97 ws30_28 ws22_97 ws22_28 p6 | omega) (by first | exact oq_5bcdc35f ws30_99 ws30_32 ws22_99 ws22_32 p7 | omega) (by first | exact oq_5bcdc35f ws30_107 ws30_70 ws22_107 ws22_70 p8 | omega) (by first | exact oq_5bc06b03 ws30_83 ws30_12 ws22_83 p9 ws22_12 | omega))
theorem lc_1 (G : GX l s0 D tys a0 dT) (GR : RS0 s0) (SF : SF0 s0) (GT : TXs0 s0) (GW : TXw0 s0) {k : kx_T} (X : AX k 350 dT) (E : kL k = l ∧ kS0 k = s0 ∧ kD k = D ∧ kR k = room_1) {q1 L : Nat} {xs : Nat → Int32} (S : SX k q1 L xs) (hL : L ≤ 3072) (I : Bd s) (jR : RLx s) (jFEQ : FEQ s) (jREQ : REQ 39 234 28 s) (jSEQ : SEQ s) (jARJ : ARJ s) (jPTJ : PTJ s) (p1 : iI s 89 = 1) (p2 : iI s 12 ≤ 8) (p3 : iI s 0 = iI s 74) (p4 : iI s 9 = iI s 90) (p5 : iI s 20 = iI s 98) (p6 : iI s 28 = iI s 97) (p7 : iI s 32 = iI s 99) (p8 : iI s 70 = iI s 107) (p9 : iI s 12 = iI s 83) {i : Int} (hi : 0 ≤ i ∧ i + 6 ≤ (L : Int)) {ce sl : Nat} (hce : ce + 29 ≤ 601024) (hsl : sl + 222 ≤ 7293034) (hk : ∀ (A : Nat → Nat) (t : PS), Bd t → RLx t → FEQ t → REQ 39 234 28 t → SEQ t → ARJ t → PTJ t → iI t 89 = 1 → iI t 12 ≤ 8 → iI t 0 = iI t 74 → iI t 9 = iI t 90 → iI t 20 = iI t 98 → iI t 28 = iI t 97 → iI t 32 = iI t 99 → iI t 70 = iI t 107 → iI t 12 = iI t 83 → WS k 1866 [(0, .ref q1), (1, .ref (A 0)), (2, .ref (A 179)), (3, .ref (A 517)), (4, .int (Int32.ofInt i))] [] (Wd A dT t) (ce + 29) (sl + 222)) : WS k 305 [(0, .ref q1), (1, .ref (A 0)), (2, .ref (A 179)), (3, .ref (A 517)), (4, .int (Int32.ofInt i))] [] (Wd A dT s) ce sl := by
  have F : Fm [11, 9, 10, 2, 4, 6, 5, 1, 3, 0, 7, 8, 73, 74, 76, 90, 91, 77, 75, 78, 79, 80, 81] [15, 1, 2, 6, 1003, 1004, 1005, 1007, 1460, 165, 162, 166, 167, 168, 169, 170, 171, 172, 173, 174, 175, 176, 177, 178, 179, 180, 181, 182, 183, 184, 185, 186, 187, 188, 189] s s := fm_rf _ _ s
  have b1 := bi_0 I
  have b2 := bi_74 I
  have b3 := bi_9 I
  have b4 := bi_90 I
  have b5 := bi_20 I
  have b6 := bi_98 I
  have b7 := bi_28 I
  have b8 := bi_97 I
  have b9 := bi_32 I
  have b10 := bi_99 I
  have b11 := bi_70 I
  have b12 := bi_107 I
  have b13 := bi_12 I
  have b14 := bi_83 I
  have b15 := bi_12 I
  have b16 := bi_89 I
  refine z_aload_n X (x := A 0) rfl (List.Mem.tail _ (List.Mem.head _)) (z_aload_n X (x := q1) rfl (List.Mem.head _) (z_load X (x := i) rfl (List.Mem.tail _ (List.Mem.tail _ (List.Mem.tail _ (List.Mem.tail _ (List.Mem.head _))))) (z_const X rfl (z_add X rfl (z_sld X S hL rfl (show 0 ≤ (i + 1) ∧ (i + 1) < (L : Int) by first | exact sx_in hi (by decide) | omega) ?_)))))
  have sr17 : rng (sc xs (i + 1)) := sc_rng
  refine z_aload_n X (x := A 517) rfl (List.Mem.tail _ (List.Mem.tail _ (List.Mem.tail _ (List.Mem.head _)))) (z_callL X (rm := rmN 314) (As := [.ref (A 0), .int (Int32.ofInt (sc xs (i + 1))), .ref (A 517)]) (st := []) rfl (by decide) rfl (by rw [E.1, E.2.1, E.2.2.1]; exact lw_stream5 (B := (fun i => iC s 0 i)) G I (fun _ _ => rfl) jARJ.2.2.2.2.2.1 jARJ.2.2.2.2.2.2.1 (by omega)) ⟨by rw [E.2.2.2]; exact (show 11 + 1 ≤ 2048 by decide), by rw [E.2.2.2]; exact (show 8 + (4 + 11) + 213 ≤ 84000 by decide), by rw [E.2.2.2]; exact (show ce + 1 ≤ 601024 by first | exact rmo_1 hce (by decide) | exact rmo_2 hce (by decide) | omega), by rw [E.2.2.2]; exact (show sl + 6 ≤ 7293034 by first | exact rmo_1 hsl (by decide) | exact rmo_2 hsl (by decide) | omega)⟩ (Nat.le_of_ble_eq_true rfl) (fun vv A s18 hA2 hq => ?_) (fun ee A s18 hA2 hq => ?_))
  rotate_left
  · obtain ⟨Is18, Fs18, JAIR_s18, JCPL_s18, e19, hv, hrs18, hps18⟩ := hq; cases hv
  obtain ⟨Is18, Fs18, JAIR_s18, JCPL_s18, e19, hv, hrs18, hps18⟩ := hq
  cases hv
  rw [← hA2 0 (by decide)]
  rw [← hA2 179 (by decide)]
  rw [← hA2 517 (by decide)]
  have JRLx_s18 : RLx s18 := RLx_fm Fs18 (by decide) jR
  have JFEQ_s18 : FEQ s18 := FEQ_fm Fs18 (by decide) jFEQ
  have JREQ_s18 : REQ 39 234 28 s18 := REQ_fm Fs18 (by decide) jREQ
  have JSEQ_s18 : SEQ s18 := SEQ_fm Fs18 (by decide) jSEQ
  have JPTJ_s18 : PTJ s18 := PTJ_fm Fs18 (by decide +kernel) jPTJ
  have JLIJ_s18 : LIJ s18 := LIJ_fm Fs18 (by decide +kernel) jARJ.2.1
  have JMQJ_s18 : MQJ s18 := MQJ_fm Fs18 (by decide +kernel) jARJ.2.2.1
  have JRLJ_s18 : RLJ s18 := RLJ_fm Fs18 (by decide +kernel) jARJ.2.2.2.2.2.2.2
  have b20 := bi_0 Is18
  have ws18_74 : iI s18 74 = iI s 74 := fm_iq Fs18 rfl
  have b21 := bi_9 Is18
  have ws18_90 : iI s18 90 = iI s 90 := fm_iq Fs18 rfl
  have ws18_20 : iI s18 20 = iI s 20 := fm_iq Fs18 rfl
  have ws18_98 : iI s18 98 = iI s 98 := fm_iq Fs18 rfl
  have ws18_28 : iI s18 28 = iI s 28 := fm_iq Fs18 rfl
  have ws18_97 : iI s18 97 = iI s 97 := fm_iq Fs18 rfl
  have ws18_32 : iI s18 32 = iI s 32 := fm_iq Fs18 rfl
  have ws18_99 : iI s18 99 = iI s 99 := fm_iq Fs18 rfl
  have ws18_70 : iI s18 70 = iI s 70 := fm_iq Fs18 rfl
  have ws18_107 : iI s18 107 = iI s 107 := fm_iq Fs18 rfl
  have ws18_12 : iI s18 12 = iI s 12 := fm_iq Fs18 rfl
  have ws18_83 : iI s18 83 = iI s 83 := fm_iq Fs18 rfl
  have ws18_12 : iI s18 12 = iI s 12 := fm_iq Fs18 rfl
  have ws18_89 : iI s18 89 = iI s 89 := fm_iq Fs18 rfl
  show WS k 316 [(0, .ref q1), (1, .ref (A 0)), (2, .ref (A 179)), (3, .ref (A 517)), (4, .int (Int32.ofInt i))] [.int (Int32.ofInt e19)] (Wd A dT s18) (ce + 1) (sl + 6)
  refine z_store X (lv' := [(5, .int (Int32.ofInt e19)), (0, .ref q1), (1, .ref (A 0)), (2, .ref (A 179)), (3, .ref (A 517)), (4, .int (Int32.ofInt i))]) rfl (by decide) (fun _ h => h) (z_aload_n X (x := A 179) rfl (List.Mem.tail _ (List.Mem.tail _ (List.Mem.tail _ (List.Mem.head _)))) (z_aload_n X (x := q1) rfl (List.Mem.tail _ (List.Mem.head _)) (z_load X (x := i) rfl (List.Mem.tail _ (List.Mem.tail _ (List.Mem.tail _ (List.Mem.tail _ (List.Mem.tail _ (List.Mem.head _)))))) (z_const X rfl (z_add X rfl (z_sld X S hL rfl (show 0 ≤ (i + 1) ∧ (i + 1) < (L : Int) by first | exact sx_in hi (by decide) | omega) ?_))))))
  have sr22 : rng (sc xs (i + 1)) := sc_rng
  have hFD : FDA (fun i => iC s 0 i) s18 := fun i hi => (fm_c Fs18 (by decide)).trans (jFEQ i hi)
  refine z_callV X 179 (rm := rmN 200) (As := [.int (Int32.ofInt (sc xs (i + 1)))]) (st := []) rfl rfl (by decide) rfl (by rw [E.1, E.2.1, E.2.2.1]; exact k_stream3 (B := (fun i => iC s 0 i)) G Is18 JRLx_s18 hFD (by first | exact ⟨sr22.1, sr22.2⟩ | omega)) ⟨by rw [E.2.2.2]; exact (show 10 + 1 ≤ 2048 from oq_5655e407), by rw [E.2.2.2]; exact (show 8 + (3 + 11) + 191 ≤ 84000 from oq_0b5c09a5), by rw [E.2.2.2]; exact (show (ce + 1) + 0 ≤ 601024 by first | (clear hps18; omega) | omega), by rw [E.2.2.2]; exact (show (sl + 6) + 0 ≤ 7293034 by first | (clear hps18; omega) | omega)⟩ (Nat.le_of_ble_eq_true rfl) (fun vv s23 hq => ?_) (fun ee s23 hq => ?_)
  rotate_left
  · obtain ⟨Is23, Fs23, JRLx_s23, JFDA_s23, e24, hv, hrs23, hps23⟩ := hq; cases hv
  obtain ⟨Is23, Fs23, JRLx_s23, JFDA_s23, e24, hv, hrs23, hps23⟩ := hq
  have hps23p := hps23.2
  cases hv
  have JFEQ_s23 : FEQ s23 := FEQ_fm Fs23 (by decide) JFEQ_s18
  have JREQ_s23 : REQ 39 234 28 s23 := REQ_fm Fs23 (by decide) JREQ_s18
  have JSEQ_s23 : SEQ s23 := SEQ_fm Fs23 (by decide) JSEQ_s18
  have JPTJ_s23 : PTJ s23 := PTJ_fm Fs23 (by decide +kernel) JPTJ_s18
  have JMQJ_s23 : MQJ s23 := MQJ_fm Fs23 (by decide +kernel) JMQJ_s18
  have JRLJ_s23 : RLJ s23 := RLJ_fm Fs23 (by decide +kernel) JRLJ_s18
  have JAIR_s23 : AIR s23 := AIR_fm Fs23 (by decide +kernel) JAIR_s18
  have JCPL_s23 : CPL s23 := CPL_fm Fs23 (by decide +kernel) JCPL_s18
  have JFDA_s23 : FDA (fun i => iC s 0 i) s23 := FDA_fm Fs23 (by decide) hFD
  have ws23_0 : iI s23 0 = iI s18 0 := fm_iq Fs23 rfl
  have b25 := bi_74 Is23
  have ws23_9 : iI s23 9 = iI s18 9 := fm_iq Fs23 rfl
  have b26 := bi_90 Is23
  have ws23_20 : iI s23 20 = iI s18 20 := fm_iq Fs23 rfl
  have ws23_98 : iI s23 98 = iI s18 98 := fm_iq Fs23 rfl
  have ws23_28 : iI s23 28 = iI s18 28 := fm_iq Fs23 rfl
  have ws23_97 : iI s23 97 = iI s18 97 := fm_iq Fs23 rfl
  have ws23_32 : iI s23 32 = iI s18 32 := fm_iq Fs23 rfl
  have ws23_99 : iI s23 99 = iI s18 99 := fm_iq Fs23 rfl
  have ws23_70 : iI s23 70 = iI s18 70 := fm_iq Fs23 rfl
  have ws23_107 : iI s23 107 = iI s18 107 := fm_iq Fs23 rfl
  have ws23_12 : iI s23 12 = iI s18 12 := fm_iq Fs23 rfl
  have ws23_83 : iI s23 83 = iI s18 83 := fm_iq Fs23 rfl
  have ws23_12 : iI s23 12 = iI s18 12 := fm_iq Fs23 rfl
  have ws23_89 : iI s23 89 = iI s18 89 := fm_iq Fs23 rfl
  have wos23 : iO s23 = iO s18 := fm_o Fs23 (by decide)
  show WS k 328 [(5, .int (Int32.ofInt e19)), (0, .ref q1), (1, .ref (A 0)), (2, .ref (A 179)), (3, .ref (A 517)), (4, .int (Int32.ofInt i))] [.int (Int32.ofInt e24)] (Wd A dT s23) (ce + 1) (sl + 6)
  have hM1 := hps23.1
  have hM2 := hps23.2
  rcases hps18 with cc | cc
  ·
    rcases hM1 with mm | mm
    ·
      have rq27 := str_eq2 cc.2.2.2.2.2.1 mm.2 (by first | (clear hps23 hps18; omega) | (clear hps18; omega) | omega)
      have rq28 := strx_c cc.2.2.2.2.2.1
      have jb29 : ARJ s23 := ⟨wqj_up jARJ.1 cc.2.2.2.2.2.2 (swm_fm Fs18 (by decide +kernel)) hM2 (sam_fm Fs23 (by decide)) (sam_fm Fs23 (by decide)) (by first | (clear hps23 hps18; omega) | (clear hps18; omega) | omega) (by first | (clear hps23 hps18; omega) | (clear hps18; omega) | omega) (by first | (clear hps23 hps18; omega) | (clear hps18; omega) | omega) (by first | (clear hps23 hps18; omega) | (clear hps18; omega) | omega) rfl ⟨by first | (clear hps23 hps18; omega) | (clear hps18; omega) | omega, by first | (clear hps23 hps18; omega) | (clear hps18; omega) | omega⟩ I, lij_up hM2 JLIJ_s18 (by first | (clear hps23 hps18; omega) | (clear hps18; omega) | omega) (by first | (clear hps23 hps18; omega) | (clear hps18; omega) | omega), JMQJ_s23, nzj_st jARJ.2.2.2.1 (by first | (clear hps23 hps18; omega) | (clear hps18; omega) | omega) (sam_ts (sam_fm Fs18 (by decide +kernel) : SAM 8 _ _) (sam_fm Fs23 (by decide +kernel))), twj_st jARJ.2.2.2.2.1 jARJ.2.2.2.1 jARJ.2.2.1.1 (by first | (clear hps23 hps18; omega) | (clear hps18; omega) | omega) (by first | (clear hps23 hps18; omega) | (clear hps18; omega) | omega) (by first | (clear hps23 hps18; omega) | (clear hps18; omega) | omega) (sam_ts (sam_fm Fs18 (by decide +kernel) : SAM 14 _ _) (sam_fm Fs23 (by decide +kernel))) (sam_ts (sam_fm Fs18 (by decide +kernel) : SAM 11 _ _) (sam_fm Fs23 (by decide +kernel))), JAIR_s23, JCPL_s23, JRLJ_s23⟩
      refine z_store X (lv' := [(6, .int (Int32.ofInt e24)), (5, .int (Int32.ofInt e19)), (0, .ref q1), (1, .ref (A 0)), (2, .ref (A 179)), (3, .ref (A 517)), (4, .int (Int32.ofInt i))]) rfl (by decide) (fun _ h => h) (z_goto X (t := 1866) rfl rfl (w_widen (ce' := ce + 29) (sl' := sl + 222) (by first | exact Nat.le_add_right _ _ | exact Nat.add_le_add_left (by decide) _ | omega) (by first | exact Nat.le_add_right _ _ | exact Nat.add_le_add_left (by decide) _ | omega) ?_))
      exact WS_lv (lv := [(0, .ref q1), (1, .ref (A 0)), (2, .ref (A 179)), (3, .ref (A 517)), (4, .int (Int32.ofInt i))]) (List.forall_mem_cons.mpr ⟨(List.Mem.tail _ (List.Mem.tail _ (List.Mem.head _))), (List.forall_mem_cons.mpr ⟨(List.Mem.tail _ (List.Mem.tail _ (List.Mem.tail _ (List.Mem.head _)))), (List.forall_mem_cons.mpr ⟨(List.Mem.tail _ (List.Mem.tail _ (List.Mem.tail _ (List.Mem.tail _ (List.Mem.head _))))), (List.forall_mem_cons.mpr ⟨(List.Mem.tail _ (List.Mem.tail _ (List.Mem.tail _ (List.Mem.tail _ (List.Mem.tail _ (List.Mem.head _)))))), (List.forall_mem_cons.mpr ⟨(List.Mem.tail _ (List.Mem.tail _ (List.Mem.tail _ (List.Mem.tail _ (List.Mem.tail _ (List.Mem.tail _ (List.Mem.head _))))))), (fun q h => absurd h List.not_mem_nil)⟩)⟩)⟩)⟩)⟩) (hk A _ Is23 JRLx_s23 JFEQ_s23 JREQ_s23 JSEQ_s23 jb29 JPTJ_s23 (by first | exact oq_f34933ba ws23_89 ws18_89 p1 b16.1 | omega) (by first | exact oq_d7ce4408 ws23_12 ws18_12 p2 | omega) (by first | (clear hps23 hps18; omega) | (clear hps18; omega) | omega) (by first | (clear hps23 hps18; omega) | (clear hps18; omega) | omega) (by first | exact oq_5bcdc35f ws23_98 ws23_20 ws18_98 ws18_20 p5 | omega) (by first | exact oq_5bcdc35f ws23_97 ws23_28 ws18_97 ws18_28 p6 | omega) (by first | exact oq_5bcdc35f ws23_99 ws23_32 ws18_99 ws18_32 p7 | omega) (by first | exact oq_5bcdc35f ws23_107 ws23_70 ws18_107 ws18_70 p8 | omega) (by first | exact oq_5bc06b03 ws23_83 ws23_12 ws18_83 p9 ws18_12 | omega))
    ·
      exfalso
      omega
  ·
    rcases hM1 with mm | mm
    ·
      exfalso
      omega
    ·
      have jb30 : ARJ s23 := ⟨wqj_up jARJ.1 (Or.inl ⟨by first | (clear hps23 hps18; omega) | (clear hps18; omega) | omega, cc.2.2.2.2.1, cc.2.2.2.2.2⟩) (swm_fm Fs18 (by decide +kernel)) hM2 (sam_fm Fs23 (by decide)) (sam_fm Fs23 (by decide)) (by first | (clear hps23 hps18; omega) | (clear hps18; omega) | omega) (by first | (clear hps23 hps18; omega) | (clear hps18; omega) | omega) (by first | (clear hps23 hps18; omega) | (clear hps18; omega) | omega) (by first | (clear hps23 hps18; omega) | (clear hps18; omega) | omega) rfl ⟨by first | (clear hps23 hps18; omega) | (clear hps18; omega) | omega, by first | (clear hps23 hps18; omega) | (clear hps18; omega) | omega⟩ I, lij_up hM2 JLIJ_s18 (by first | (clear hps23 hps18; omega) | (clear hps18; omega) | omega) (by first | (clear hps23 hps18; omega) | (clear hps18; omega) | omega), JMQJ_s23, nzj_st jARJ.2.2.2.1 (by first | (clear hps23 hps18; omega) | (clear hps18; omega) | omega) (sam_ts (sam_fm Fs18 (by decide +kernel) : SAM 8 _ _) (sam_fm Fs23 (by decide +kernel))), twj_st jARJ.2.2.2.2.1 jARJ.2.2.2.1 jARJ.2.2.1.1 (by first | (clear hps23 hps18; omega) | (clear hps18; omega) | omega) (by first | (clear hps23 hps18; omega) | (clear hps18; omega) | omega) (by first | (clear hps23 hps18; omega) | (clear hps18; omega) | omega) (sam_ts (sam_fm Fs18 (by decide +kernel) : SAM 14 _ _) (sam_fm Fs23 (by decide +kernel))) (sam_ts (sam_fm Fs18 (by decide +kernel) : SAM 11 _ _) (sam_fm Fs23 (by decide +kernel))), JAIR_s23, JCPL_s23, JRLJ_s23⟩
      refine z_store X (lv' := [(6, .int (Int32.ofInt e24)), (5, .int (Int32.ofInt e19)), (0, .ref q1), (1, .ref (A 0)), (2, .ref (A 179)), (3, .ref (A 517)), (4, .int (Int32.ofInt i))]) rfl (by decide) (fun _ h => h) (z_goto X (t := 1866) rfl rfl (w_widen (ce' := ce + 29) (sl' := sl + 222) (by first | exact Nat.le_add_right _ _ | exact Nat.add_le_add_left (by decide) _ | omega) (by first | exact Nat.le_add_right _ _ | exact Nat.add_le_add_left (by decide) _ | omega) ?_))
      exact WS_lv (lv := [(0, .ref q1), (1, .ref (A 0)), (2, .ref (A 179)), (3, .ref (A 517)), (4, .int (Int32.ofInt i))]) (List.forall_mem_cons.mpr ⟨(List.Mem.tail _ (List.Mem.tail _ (List.Mem.head _))), (List.forall_mem_cons.mpr ⟨(List.Mem.tail _ (List.Mem.tail _ (List.Mem.tail _ (List.Mem.head _)))), (List.forall_mem_cons.mpr ⟨(List.Mem.tail _ (List.Mem.tail _ (List.Mem.tail _ (List.Mem.tail _ (List.Mem.head _))))), (List.forall_mem_cons.mpr ⟨(List.Mem.tail _ (List.Mem.tail _ (List.Mem.tail _ (List.Mem.tail _ (List.Mem.tail _ (List.Mem.head _)))))), (List.forall_mem_cons.mpr ⟨(List.Mem.tail _ (List.Mem.tail _ (List.Mem.tail _ (List.Mem.tail _ (List.Mem.tail _ (List.Mem.tail _ (List.Mem.head _))))))), (fun q h => absurd h List.not_mem_nil)⟩)⟩)⟩)⟩)⟩) (hk A _ Is23 JRLx_s23 JFEQ_s23 JREQ_s23 JSEQ_s23 jb30 JPTJ_s23 (by first | exact oq_f34933ba ws23_89 ws18_89 p1 b16.1 | omega) (by first | exact oq_d7ce4408 ws23_12 ws18_12 p2 | omega) (by first | (clear hps23 hps18; omega) | (clear hps18; omega) | omega) (by first | (clear hps23 hps18; omega) | (clear hps18; omega) | omega) (by first | exact oq_5bcdc35f ws23_98 ws23_20 ws18_98 ws18_20 p5 | omega) (by first | exact oq_5bcdc35f ws23_97 ws23_28 ws18_97 ws18_28 p6 | omega) (by first | exact oq_5bcdc35f ws23_99 ws23_32 ws18_99 ws18_32 p7 | omega) (by first | exact oq_5bcdc35f ws23_107 ws23_70 ws18_107 ws18_70 p8 | omega) (by first | exact oq_5bc06b03 ws23_83 ws23_12 ws18_83 p9 ws18_12 | omega))
theorem lc_2 (G : GX l s0 D tys a0 dT) (GR : RS0 s0) (SF : SF0 s0) (GT : TXs0 s0) (GW : TXw0 s0) {k : kx_T} (X : AX k 350 dT) (E : kL k = l ∧ kS0 k = s0 ∧ kD k = D ∧ kR k = room_1) {q1 L : Nat} {xs : Nat → Int32} (S : SX k q1 L xs) (hL : L ≤ 3072) (I : Bd s) (jR : RLx s) (jFEQ : FEQ s) (jREQ : REQ 39 234 28 s) (jSEQ : SEQ s) (jARJ : ARJ s) (jPTJ : PTJ s) (p1 : iI s 89 = 1) (p2 : iI s 12 ≤ 8) (p3 : iI s 0 = iI s 74) (p4 : iI s 9 = iI s 90) (p5 : iI s 20 = iI s 98) (p6 : iI s 28 = iI s 97) (p7 : iI s 32 = iI s 99) (p8 : iI s 70 = iI s 107) (p9 : iI s 12 = iI s 83) {i : Int} (hi : 0 ≤ i ∧ i + 6 ≤ (L : Int)) {ce sl : Nat} (hce : ce + 29 ≤ 601024) (hsl : sl + 222 ≤ 7293034) (hk : ∀ (A : Nat → Nat) (t : PS), Bd t → RLx t → FEQ t → REQ 39 234 28 t → SEQ t → ARJ t → PTJ t → iI t 89 = 1 → iI t 12 ≤ 8 → iI t 0 = iI t 74 → iI t 9 = iI t 90 → iI t 20 = iI t 98 → iI t 28 = iI t 97 → iI t 32 = iI t 99 → iI t 70 = iI t 107 → iI t 12 = iI t 83 → WS k 1866 [(0, .ref q1), (1, .ref (A 0)), (2, .ref (A 179)), (3, .ref (A 517)), (4, .int (Int32.ofInt i))] [] (Wd A dT t) (ce + 29) (sl + 222)) : WS k 333 [(0, .ref q1), (1, .ref (A 0)), (2, .ref (A 179)), (3, .ref (A 517)), (4, .int (Int32.ofInt i))] [] (Wd A dT s) ce sl := by
  have F : Fm [2, 4, 6, 5, 7, 8, 19, 16, 17, 18, 12, 13, 14, 15, 1, 3, 0, 73, 74, 76, 82, 83, 84, 85, 77, 75, 78, 79, 80, 81, 86, 87, 88] [16, 17, 18, 19, 1460, 160, 159, 158] s s := fm_rf _ _ s
  have b1 := bi_0 I
  have b2 := bi_74 I
  have b3 := bi_9 I
  have b4 := bi_90 I
  have b5 := bi_20 I
  have b6 := bi_98 I
  have b7 := bi_28 I
  have b8 := bi_97 I
  have b9 := bi_32 I
  have b10 := bi_99 I
  have b11 := bi_70 I
  have b12 := bi_107 I
  have b13 := bi_12 I
  have b14 := bi_83 I
  have b15 := bi_12 I
  have b16 := bi_89 I
  refine z_aload_n X (x := A 0) rfl (List.Mem.tail _ (List.Mem.head _)) (z_aload_n X (x := q1) rfl (List.Mem.head _) (z_load X (x := i) rfl (List.Mem.tail _ (List.Mem.tail _ (List.Mem.tail _ (List.Mem.tail _ (List.Mem.head _))))) (z_const X rfl (z_add X rfl (z_sld X S hL rfl (show 0 ≤ (i + 1) ∧ (i + 1) < (L : Int) by first | exact sx_in hi (by decide) | omega) ?_)))))
  have sr17 : rng (sc xs (i + 1)) := sc_rng
  refine z_aload_n X (x := A 517) rfl (List.Mem.tail _ (List.Mem.tail _ (List.Mem.tail _ (List.Mem.head _)))) (z_callL X (rm := rmN 315) (As := [.ref (A 0), .int (Int32.ofInt (sc xs (i + 1))), .ref (A 517)]) (st := []) rfl (by decide) rfl (by rw [E.1, E.2.1, E.2.2.1]; exact lw_rules4 (B := (fun i => iC s 0 i)) G SF GW I (fun _ _ => rfl) (by omega) (by omega)) ⟨by rw [E.2.2.2]; exact (show 71 + 1 ≤ 2048 by decide), by rw [E.2.2.2]; exact (show 8 + (4 + 11) + 3060 ≤ 84000 by decide), by rw [E.2.2.2]; exact (show ce + 1 ≤ 601024 by first | exact rmo_1 hce (by decide) | exact rmo_2 hce (by decide) | omega), by rw [E.2.2.2]; exact (show sl + 6 ≤ 7293034 by first | exact rmo_1 hsl (by decide) | exact rmo_2 hsl (by decide) | omega)⟩ (Nat.le_of_ble_eq_true rfl) (fun vv A s18 hA2 hq => ?_) (fun ee A s18 hA2 hq => ?_))
  rotate_left
  · obtain ⟨Is18, Fs18, e19, hv, hrs18, hps18⟩ := hq; cases hv
  obtain ⟨Is18, Fs18, e19, hv, hrs18, hps18⟩ := hq
  have hps18p := hps18.2.1
  cases hv
  rw [← hA2 0 (by decide)]
  rw [← hA2 179 (by decide)]
  rw [← hA2 517 (by decide)]
  have JRLx_s18 : RLx s18 := RLx_fm Fs18 (by decide) jR
  have JFEQ_s18 : FEQ s18 := FEQ_fm Fs18 (by decide) jFEQ
  have JREQ_s18 : REQ 39 234 28 s18 := REQ_fm Fs18 (by decide) jREQ
  have JSEQ_s18 : SEQ s18 := SEQ_fm Fs18 (by decide) jSEQ
  have JPTJ_s18 : PTJ s18 := PTJ_fm Fs18 (by decide +kernel) jPTJ
  have JWQJ_s18 : WQJ s18 := WQJ_fm Fs18 (by decide +kernel) jARJ.1
  have JLIJ_s18 : LIJ s18 := LIJ_fm Fs18 (by decide +kernel) jARJ.2.1
  have JMQJ_s18 : MQJ s18 := MQJ_fm Fs18 (by decide +kernel) jARJ.2.2.1
  have JNZJ_s18 : NZJ s18 := NZJ_fm Fs18 (by decide) jARJ.2.2.2.1
  have JTWJ_s18 : TWJ s18 := TWJ_fm Fs18 (by decide +kernel) jARJ.2.2.2.2.1
  have JAIR_s18 : AIR s18 := AIR_fm Fs18 (by decide +kernel) jARJ.2.2.2.2.2.1
  have JCPL_s18 : CPL s18 := CPL_fm Fs18 (by decide +kernel) jARJ.2.2.2.2.2.2.1
  have b20 := bi_0 Is18
  have ws18_74 : iI s18 74 = iI s 74 := fm_iq Fs18 rfl
  have ws18_9 : iI s18 9 = iI s 9 := fm_iq Fs18 rfl
  have ws18_90 : iI s18 90 = iI s 90 := fm_iq Fs18 rfl
  have ws18_20 : iI s18 20 = iI s 20 := fm_iq Fs18 rfl
  have ws18_98 : iI s18 98 = iI s 98 := fm_iq Fs18 rfl
  have ws18_28 : iI s18 28 = iI s 28 := fm_iq Fs18 rfl
  have ws18_97 : iI s18 97 = iI s 97 := fm_iq Fs18 rfl
  have ws18_32 : iI s18 32 = iI s 32 := fm_iq Fs18 rfl
  have ws18_99 : iI s18 99 = iI s 99 := fm_iq Fs18 rfl
  have ws18_70 : iI s18 70 = iI s 70 := fm_iq Fs18 rfl
  have ws18_107 : iI s18 107 = iI s 107 := fm_iq Fs18 rfl
  have b21 := bi_12 Is18
  have ws18_83 : iI s18 83 = iI s 83 := fm_iq Fs18 rfl
  have b22 := bi_12 Is18
  have ws18_89 : iI s18 89 = iI s 89 := fm_iq Fs18 rfl
  show WS k 344 [(0, .ref q1), (1, .ref (A 0)), (2, .ref (A 179)), (3, .ref (A 517)), (4, .int (Int32.ofInt i))] [.int (Int32.ofInt e19)] (Wd A dT s18) (ce + 1) (sl + 6)
  refine z_store X (lv' := [(5, .int (Int32.ofInt e19)), (0, .ref q1), (1, .ref (A 0)), (2, .ref (A 179)), (3, .ref (A 517)), (4, .int (Int32.ofInt i))]) rfl (by decide) (fun _ h => h) (z_aload_n X (x := A 179) rfl (List.Mem.tail _ (List.Mem.tail _ (List.Mem.tail _ (List.Mem.head _)))) (z_aload_n X (x := q1) rfl (List.Mem.tail _ (List.Mem.head _)) (z_load X (x := i) rfl (List.Mem.tail _ (List.Mem.tail _ (List.Mem.tail _ (List.Mem.tail _ (List.Mem.tail _ (List.Mem.head _)))))) (z_const X rfl (z_add X rfl (z_sld X S hL rfl (show 0 ≤ (i + 1) ∧ (i + 1) < (L : Int) by first | exact sx_in hi (by decide) | omega) ?_))))))
  have sr23 : rng (sc xs (i + 1)) := sc_rng
  have hFD : FDA (fun i => iC s 0 i) s18 := fun i hi => (fm_c Fs18 (by decide)).trans (jFEQ i hi)
  refine z_callV X 179 (rm := rmN 214) (As := [.int (Int32.ofInt (sc xs (i + 1)))]) (st := []) rfl rfl (by decide) rfl (by rw [E.1, E.2.1, E.2.2.1]; exact k_rules4 (B := (fun i => iC s 0 i)) G Is18 hFD (by first | exact ⟨sr23.1, sr23.2⟩ | omega)) ⟨by rw [E.2.2.2]; exact (show 61 + 1 ≤ 2048 from oq_0ed3bd18), by rw [E.2.2.2]; exact (show 8 + (3 + 11) + 2660 ≤ 84000 from oq_735d5381), by rw [E.2.2.2]; exact (show (ce + 1) + 0 ≤ 601024 by first | (clear hps18; omega) | omega), by rw [E.2.2.2]; exact (show (sl + 6) + 0 ≤ 7293034 by first | (clear hps18; omega) | omega)⟩ (Nat.le_of_ble_eq_true rfl) (fun vv s24 hq => ?_) (fun ee s24 hq => ?_)
  rotate_left
  · obtain ⟨Is24, Fs24, JFDA_s24, e25, hv, hrs24, hps24⟩ := hq; cases hv
  obtain ⟨Is24, Fs24, JFDA_s24, e25, hv, hrs24, hps24⟩ := hq
  cases hv
  have JRLx_s24 : RLx s24 := RLx_fm Fs24 (by decide) JRLx_s18
  have JFEQ_s24 : FEQ s24 := FEQ_fm Fs24 (by decide) JFEQ_s18
  have JREQ_s24 : REQ 39 234 28 s24 := REQ_fm Fs24 (by decide) JREQ_s18
  have JSEQ_s24 : SEQ s24 := SEQ_fm Fs24 (by decide) JSEQ_s18
  have JPTJ_s24 : PTJ s24 := PTJ_fm Fs24 (by decide +kernel) JPTJ_s18
  have JWQJ_s24 : WQJ s24 := WQJ_fm Fs24 (by decide +kernel) JWQJ_s18
  have JLIJ_s24 : LIJ s24 := LIJ_fm Fs24 (by decide +kernel) JLIJ_s18
  have JMQJ_s24 : MQJ s24 := MQJ_fm Fs24 (by decide +kernel) JMQJ_s18
  have JNZJ_s24 : NZJ s24 := NZJ_fm Fs24 (by decide) JNZJ_s18
  have JTWJ_s24 : TWJ s24 := TWJ_fm Fs24 (by decide +kernel) JTWJ_s18
  have JAIR_s24 : AIR s24 := AIR_fm Fs24 (by decide +kernel) JAIR_s18
  have JCPL_s24 : CPL s24 := CPL_fm Fs24 (by decide +kernel) JCPL_s18
  have JFDA_s24 : FDA (fun i => iC s 0 i) s24 := FDA_fm Fs24 (by decide) hFD
  have ws24_0 : iI s24 0 = iI s18 0 := fm_iq Fs24 rfl
  have b26 := bi_74 Is24
  have ws24_9 : iI s24 9 = iI s18 9 := fm_iq Fs24 rfl
  have ws24_90 : iI s24 90 = iI s18 90 := fm_iq Fs24 rfl
  have ws24_20 : iI s24 20 = iI s18 20 := fm_iq Fs24 rfl
  have ws24_98 : iI s24 98 = iI s18 98 := fm_iq Fs24 rfl
  have ws24_28 : iI s24 28 = iI s18 28 := fm_iq Fs24 rfl
  have ws24_97 : iI s24 97 = iI s18 97 := fm_iq Fs24 rfl
  have ws24_32 : iI s24 32 = iI s18 32 := fm_iq Fs24 rfl
  have ws24_99 : iI s24 99 = iI s18 99 := fm_iq Fs24 rfl
  have ws24_70 : iI s24 70 = iI s18 70 := fm_iq Fs24 rfl
  have ws24_107 : iI s24 107 = iI s18 107 := fm_iq Fs24 rfl
  have ws24_12 : iI s24 12 = iI s18 12 := fm_iq Fs24 rfl
  have b27 := bi_83 Is24
  have ws24_12 : iI s24 12 = iI s18 12 := fm_iq Fs24 rfl
  have ws24_89 : iI s24 89 = iI s18 89 := fm_iq Fs24 rfl
  have wos24 : iO s24 = iO s18 := fm_o Fs24 (by decide)
  show WS k 356 [(5, .int (Int32.ofInt e19)), (0, .ref q1), (1, .ref (A 0)), (2, .ref (A 179)), (3, .ref (A 517)), (4, .int (Int32.ofInt i))] [.int (Int32.ofInt e25)] (Wd A dT s24) (ce + 1) (sl + 6)
  have hC8 := hps18.2
  have hM8 := hps24.2
  rcases hps18.1 with cc | cc
  ·
    rcases hps24.1 with mm | mm
    ·
      have hRB := rl_both jARJ.2.2.2.2.2.2.2 cc.2.2.2.2 mm.2.2.2.2 (fm_i Fs24 (by decide +kernel)) (fm_i Fs24 (by decide +kernel)) (sam_fm Fs24 (by decide +kernel)) (sam_fm Fs24 (by decide +kernel)) (fm_i Fs18 (by decide +kernel)) (fm_i Fs18 (by decide +kernel)) (sam_fm Fs18 (by decide +kernel))
      have rq28 := hRB.1
      have jb29 : ARJ s24 := ⟨JWQJ_s24, JLIJ_s24, JMQJ_s24, JNZJ_s24, JTWJ_s24, JAIR_s24, JCPL_s24, hRB.2⟩
      refine z_store X (lv' := [(6, .int (Int32.ofInt e25)), (5, .int (Int32.ofInt e19)), (0, .ref q1), (1, .ref (A 0)), (2, .ref (A 179)), (3, .ref (A 517)), (4, .int (Int32.ofInt i))]) rfl (by decide) (fun _ h => h) (z_goto X (t := 1866) rfl rfl (w_widen (ce' := ce + 29) (sl' := sl + 222) (by first | exact Nat.le_add_right _ _ | exact Nat.add_le_add_left (by decide) _ | omega) (by first | exact Nat.le_add_right _ _ | exact Nat.add_le_add_left (by decide) _ | omega) ?_))
      exact WS_lv (lv := [(0, .ref q1), (1, .ref (A 0)), (2, .ref (A 179)), (3, .ref (A 517)), (4, .int (Int32.ofInt i))]) (List.forall_mem_cons.mpr ⟨(List.Mem.tail _ (List.Mem.tail _ (List.Mem.head _))), (List.forall_mem_cons.mpr ⟨(List.Mem.tail _ (List.Mem.tail _ (List.Mem.tail _ (List.Mem.head _)))), (List.forall_mem_cons.mpr ⟨(List.Mem.tail _ (List.Mem.tail _ (List.Mem.tail _ (List.Mem.tail _ (List.Mem.head _))))), (List.forall_mem_cons.mpr ⟨(List.Mem.tail _ (List.Mem.tail _ (List.Mem.tail _ (List.Mem.tail _ (List.Mem.tail _ (List.Mem.head _)))))), (List.forall_mem_cons.mpr ⟨(List.Mem.tail _ (List.Mem.tail _ (List.Mem.tail _ (List.Mem.tail _ (List.Mem.tail _ (List.Mem.tail _ (List.Mem.head _))))))), (fun q h => absurd h List.not_mem_nil)⟩)⟩)⟩)⟩)⟩) (hk A _ Is24 JRLx_s24 JFEQ_s24 JREQ_s24 JSEQ_s24 jb29 JPTJ_s24 (by first | exact oq_f34933ba ws24_89 ws18_89 p1 b16.1 | omega) (by first | exact oq_86ef0b17 ws24_12 hps18.2.1 | omega) (by first | (clear hps24 hps18; omega) | (clear hps18; omega) | omega) (by first | exact oq_5bcdc35f ws24_90 ws24_9 ws18_90 ws18_9 p4 | omega) (by first | exact oq_5bcdc35f ws24_98 ws24_20 ws18_98 ws18_20 p5 | omega) (by first | exact oq_5bcdc35f ws24_97 ws24_28 ws18_97 ws18_28 p6 | omega) (by first | exact oq_5bcdc35f ws24_99 ws24_32 ws18_99 ws18_32 p7 | omega) (by first | exact oq_5bcdc35f ws24_107 ws24_70 ws18_107 ws18_70 p8 | omega) (by first | (clear hps24 hps18; omega) | (clear hps18; omega) | omega))
    ·
      exfalso
      omega
  ·
    rcases hps24.1 with mm | mm
    ·
      exfalso
      omega
    ·
      have jb30 : ARJ s24 := ⟨JWQJ_s24, JLIJ_s24, JMQJ_s24, JNZJ_s24, JTWJ_s24, JAIR_s24, JCPL_s24, rlj_s jARJ.2.2.2.2.2.2.2 ((fm_i Fs24 (by decide +kernel)).trans cc.2.2.2.1) ((fm_i Fs24 (by decide +kernel)).trans cc.2.2.2.2.1) (sam_ts cc.2.2.2.2.2.1 (sam_fm Fs24 (by decide +kernel))) (sam_ts cc.2.2.2.2.2.2 (sam_fm Fs24 (by decide +kernel))) (mm.2.2.2.1.trans (fm_i Fs18 (by decide +kernel))) (mm.2.2.2.2.1.trans (fm_i Fs18 (by decide +kernel))) (sam_ts (sam_fm Fs18 (by decide +kernel)) mm.2.2.2.2.2)⟩
      refine z_store X (lv' := [(6, .int (Int32.ofInt e25)), (5, .int (Int32.ofInt e19)), (0, .ref q1), (1, .ref (A 0)), (2, .ref (A 179)), (3, .ref (A 517)), (4, .int (Int32.ofInt i))]) rfl (by decide) (fun _ h => h) (z_goto X (t := 1866) rfl rfl (w_widen (ce' := ce + 29) (sl' := sl + 222) (by first | exact Nat.le_add_right _ _ | exact Nat.add_le_add_left (by decide) _ | omega) (by first | exact Nat.le_add_right _ _ | exact Nat.add_le_add_left (by decide) _ | omega) ?_))
      exact WS_lv (lv := [(0, .ref q1), (1, .ref (A 0)), (2, .ref (A 179)), (3, .ref (A 517)), (4, .int (Int32.ofInt i))]) (List.forall_mem_cons.mpr ⟨(List.Mem.tail _ (List.Mem.tail _ (List.Mem.head _))), (List.forall_mem_cons.mpr ⟨(List.Mem.tail _ (List.Mem.tail _ (List.Mem.tail _ (List.Mem.head _)))), (List.forall_mem_cons.mpr ⟨(List.Mem.tail _ (List.Mem.tail _ (List.Mem.tail _ (List.Mem.tail _ (List.Mem.head _))))), (List.forall_mem_cons.mpr ⟨(List.Mem.tail _ (List.Mem.tail _ (List.Mem.tail _ (List.Mem.tail _ (List.Mem.tail _ (List.Mem.head _)))))), (List.forall_mem_cons.mpr ⟨(List.Mem.tail _ (List.Mem.tail _ (List.Mem.tail _ (List.Mem.tail _ (List.Mem.tail _ (List.Mem.tail _ (List.Mem.head _))))))), (fun q h => absurd h List.not_mem_nil)⟩)⟩)⟩)⟩)⟩) (hk A _ Is24 JRLx_s24 JFEQ_s24 JREQ_s24 JSEQ_s24 jb30 JPTJ_s24 (by first | exact oq_f34933ba ws24_89 ws18_89 p1 b16.1 | omega) (by first | exact oq_86ef0b17 ws24_12 hps18.2.1 | omega) (by first | (clear hps24 hps18; omega) | (clear hps18; omega) | omega) (by first | exact oq_5bcdc35f ws24_90 ws24_9 ws18_90 ws18_9 p4 | omega) (by first | exact oq_5bcdc35f ws24_98 ws24_20 ws18_98 ws18_20 p5 | omega) (by first | exact oq_5bcdc35f ws24_97 ws24_28 ws18_97 ws18_28 p6 | omega) (by first | exact oq_5bcdc35f ws24_99 ws24_32 ws18_99 ws18_32 p7 | omega) (by first | exact oq_5bcdc35f ws24_107 ws24_70 ws18_107 ws18_70 p8 | omega) (by first | (clear hps24 hps18; omega) | (clear hps18; omega) | omega))
theorem lc_3 (G : GX l s0 D tys a0 dT) (GR : RS0 s0) (SF : SF0 s0) (GT : TXs0 s0) (GW : TXw0 s0) {k : kx_T} (X : AX k 350 dT) (E : kL k = l ∧ kS0 k = s0 ∧ kD k = D ∧ kR k = room_1) {q1 L : Nat} {xs : Nat → Int32} (S : SX k q1 L xs) (hL : L ≤ 3072) (I : Bd s) (jR : RLx s) (jFEQ : FEQ s) (jREQ : REQ 39 234 28 s) (jSEQ : SEQ s) (jARJ : ARJ s) (jPTJ : PTJ s) (p1 : iI s 89 = 1) (p2 : iI s 12 ≤ 8) (p3 : iI s 0 = iI s 74) (p4 : iI s 9 = iI s 90) (p5 : iI s 20 = iI s 98) (p6 : iI s 28 = iI s 97) (p7 : iI s 32 = iI s 99) (p8 : iI s 70 = iI s 107) (p9 : iI s 12 = iI s 83) {i : Int} (hi : 0 ≤ i ∧ i + 6 ≤ (L : Int)) {ce sl : Nat} (hce : ce + 29 ≤ 601024) (hsl : sl + 222 ≤ 7293034) (hk : ∀ (A : Nat → Nat) (t : PS), Bd t → RLx t → FEQ t → REQ 39 234 28 t → SEQ t → ARJ t → PTJ t → iI t 89 = 1 → iI t 12 ≤ 8 → iI t 0 = iI t 74 → iI t 9 = iI t 90 → iI t 20 = iI t 98 → iI t 28 = iI t 97 → iI t 32 = iI t 99 → iI t 70 = iI t 107 → iI t 12 = iI t 83 → WS k 1866 [(0, .ref q1), (1, .ref (A 0)), (2, .ref (A 179)), (3, .ref (A 517)), (4, .int (Int32.ofInt i))] [] (Wd A dT t) (ce + 29) (sl + 222)) : WS k 361 [(0, .ref q1), (1, .ref (A 0)), (2, .ref (A 179)), (3, .ref (A 517)), (4, .int (Int32.ofInt i))] [] (Wd A dT s) ce sl := by
  have F : Fm [73] [] s s := fm_rf _ _ s
  have b1 := bi_0 I
  have b2 := bi_74 I
  have b3 := bi_9 I
  have b4 := bi_90 I
  have b5 := bi_20 I
  have b6 := bi_98 I
  have b7 := bi_28 I
  have b8 := bi_97 I
  have b9 := bi_32 I
  have b10 := bi_99 I
  have b11 := bi_70 I
  have b12 := bi_107 I
  have b13 := bi_12 I
  have b14 := bi_83 I
  have b15 := bi_12 I
  have b16 := bi_89 I
  refine z_aload_n X (x := A 0) rfl (List.Mem.tail _ (List.Mem.head _)) (z_callV X 0 (rm := rmN 138) (As := []) (st := []) rfl rfl (by decide) rfl (by rw [E.1, E.2.1, E.2.2.1]; exact cs_fault G I ) ⟨by rw [E.2.2.2]; exact (show 6 + 1 ≤ 2048 from oq_4d34cb53), by rw [E.2.2.2]; exact (show 8 + (1 + 11) + 100 ≤ 84000 from oq_a32dccc4), by rw [E.2.2.2]; exact (show ce + 0 ≤ 601024 by omega), by rw [E.2.2.2]; exact (show sl + 0 ≤ 7293034 by omega)⟩ (Nat.le_of_ble_eq_true rfl) (fun vv s17 hq => ?_) (fun ee s17 hq => ?_))
  rotate_left
  · obtain ⟨Is17, Fs17, e18, hv, hrs17, hps17⟩ := hq; cases hv
  obtain ⟨Is17, Fs17, e18, hv, hrs17, hps17⟩ := hq
  cases hv
  have JRLx_s17 : RLx s17 := RLx_fm Fs17 (by decide) jR
  have JFEQ_s17 : FEQ s17 := FEQ_fm Fs17 (by decide) jFEQ
  have JREQ_s17 : REQ 39 234 28 s17 := REQ_fm Fs17 (by decide) jREQ
  have JSEQ_s17 : SEQ s17 := SEQ_fm Fs17 (by decide) jSEQ
  have JARJ_s17 : ARJ s17 := ARJ_fm Fs17 ⟨by decide +kernel, by decide +kernel, by decide +kernel, by decide +kernel, by decide +kernel, by decide +kernel, by decide +kernel, by decide +kernel⟩ jARJ
  have JPTJ_s17 : PTJ s17 := PTJ_fm Fs17 (by decide +kernel) jPTJ
  have ws17_0 : iI s17 0 = iI s 0 := fm_iq Fs17 rfl
  have ws17_74 : iI s17 74 = iI s 74 := fm_iq Fs17 rfl
  have ws17_9 : iI s17 9 = iI s 9 := fm_iq Fs17 rfl
  have ws17_90 : iI s17 90 = iI s 90 := fm_iq Fs17 rfl
  have ws17_20 : iI s17 20 = iI s 20 := fm_iq Fs17 rfl
  have ws17_98 : iI s17 98 = iI s 98 := fm_iq Fs17 rfl
  have ws17_28 : iI s17 28 = iI s 28 := fm_iq Fs17 rfl
  have ws17_97 : iI s17 97 = iI s 97 := fm_iq Fs17 rfl
  have ws17_32 : iI s17 32 = iI s 32 := fm_iq Fs17 rfl
  have ws17_99 : iI s17 99 = iI s 99 := fm_iq Fs17 rfl
  have ws17_70 : iI s17 70 = iI s 70 := fm_iq Fs17 rfl
  have ws17_107 : iI s17 107 = iI s 107 := fm_iq Fs17 rfl
  have ws17_12 : iI s17 12 = iI s 12 := fm_iq Fs17 rfl
  have ws17_83 : iI s17 83 = iI s 83 := fm_iq Fs17 rfl
  have ws17_12 : iI s17 12 = iI s 12 := fm_iq Fs17 rfl
  have ws17_89 : iI s17 89 = iI s 89 := fm_iq Fs17 rfl
  have wos17 : iO s17 = iO s := fm_o Fs17 (by decide)
  show WS k 365 [(0, .ref q1), (1, .ref (A 0)), (2, .ref (A 179)), (3, .ref (A 517)), (4, .int (Int32.ofInt i))] [.int (Int32.ofInt e18)] (Wd A dT s17) ce sl
  refine w_pop X.1 (ax_d X (show cdA 350 365 = some (.pop, 1, 0, 0, 0) from rfl)) rfl (z_aload_n X (x := A 179) rfl (List.Mem.tail _ (List.Mem.tail _ (List.Mem.head _))) (z_callV X 179 (rm := rmN 215) (As := []) (st := []) rfl rfl (by decide) rfl (by rw [E.1, E.2.1, E.2.2.1]; exact k_fault G Is17 ) ⟨by rw [E.2.2.2]; exact (show 6 + 1 ≤ 2048 from oq_4d34cb53), by rw [E.2.2.2]; exact (show 8 + (1 + 11) + 100 ≤ 84000 from oq_a32dccc4), by rw [E.2.2.2]; exact (show ce + 0 ≤ 601024 by omega), by rw [E.2.2.2]; exact (show sl + 0 ≤ 7293034 by omega)⟩ (Nat.le_of_ble_eq_true rfl) (fun vv s19 hq => ?_) (fun ee s19 hq => ?_)))
  rotate_left
  · obtain ⟨Is19, Fs19, e20, hv, hrs19, hps19⟩ := hq; cases hv
  obtain ⟨Is19, Fs19, e20, hv, hrs19, hps19⟩ := hq
  cases hv
  have JRLx_s19 : RLx s19 := RLx_fm Fs19 (by decide) JRLx_s17
  have JFEQ_s19 : FEQ s19 := FEQ_fm Fs19 (by decide) JFEQ_s17
  have JREQ_s19 : REQ 39 234 28 s19 := REQ_fm Fs19 (by decide) JREQ_s17
  have JSEQ_s19 : SEQ s19 := SEQ_fm Fs19 (by decide) JSEQ_s17
  have JARJ_s19 : ARJ s19 := ARJ_fm Fs19 ⟨by decide +kernel, by decide +kernel, by decide +kernel, by decide +kernel, by decide +kernel, by decide +kernel, by decide +kernel, by decide +kernel⟩ JARJ_s17
  have JPTJ_s19 : PTJ s19 := PTJ_fm Fs19 (by decide +kernel) JPTJ_s17
  have ws19_0 : iI s19 0 = iI s17 0 := fm_iq Fs19 rfl
  have ws19_74 : iI s19 74 = iI s17 74 := fm_iq Fs19 rfl
  have ws19_9 : iI s19 9 = iI s17 9 := fm_iq Fs19 rfl
  have ws19_90 : iI s19 90 = iI s17 90 := fm_iq Fs19 rfl
  have ws19_20 : iI s19 20 = iI s17 20 := fm_iq Fs19 rfl
  have ws19_98 : iI s19 98 = iI s17 98 := fm_iq Fs19 rfl
  have ws19_28 : iI s19 28 = iI s17 28 := fm_iq Fs19 rfl
  have ws19_97 : iI s19 97 = iI s17 97 := fm_iq Fs19 rfl
  have ws19_32 : iI s19 32 = iI s17 32 := fm_iq Fs19 rfl
  have ws19_99 : iI s19 99 = iI s17 99 := fm_iq Fs19 rfl
  have ws19_70 : iI s19 70 = iI s17 70 := fm_iq Fs19 rfl
  have ws19_107 : iI s19 107 = iI s17 107 := fm_iq Fs19 rfl
  have ws19_12 : iI s19 12 = iI s17 12 := fm_iq Fs19 rfl
  have ws19_83 : iI s19 83 = iI s17 83 := fm_iq Fs19 rfl
  have ws19_12 : iI s19 12 = iI s17 12 := fm_iq Fs19 rfl
  have ws19_89 : iI s19 89 = iI s17 89 := fm_iq Fs19 rfl
  have wos19 : iO s19 = iO s17 := fm_o Fs19 (by decide)
  show WS k 370 [(0, .ref q1), (1, .ref (A 0)), (2, .ref (A 179)), (3, .ref (A 517)), (4, .int (Int32.ofInt i))] [.int (Int32.ofInt e20)] (Wd A dT s19) ce sl
  refine w_pop X.1 (ax_d X (show cdA 350 370 = some (.pop, 1, 0, 0, 0) from rfl)) rfl (z_goto X (t := 1866) rfl rfl (w_widen (ce' := ce + 29) (sl' := sl + 222) (by first | exact Nat.le_add_right _ _ | exact Nat.add_le_add_left (by decide) _ | omega) (by first | exact Nat.le_add_right _ _ | exact Nat.add_le_add_left (by decide) _ | omega) ?_))
  exact WS_lv (lv := [(0, .ref q1), (1, .ref (A 0)), (2, .ref (A 179)), (3, .ref (A 517)), (4, .int (Int32.ofInt i))]) (List.forall_mem_cons.mpr ⟨(List.Mem.head _), (List.forall_mem_cons.mpr ⟨(List.Mem.tail _ (List.Mem.head _)), (List.forall_mem_cons.mpr ⟨(List.Mem.tail _ (List.Mem.tail _ (List.Mem.head _))), (List.forall_mem_cons.mpr ⟨(List.Mem.tail _ (List.Mem.tail _ (List.Mem.tail _ (List.Mem.head _)))), (List.forall_mem_cons.mpr ⟨(List.Mem.tail _ (List.Mem.tail _ (List.Mem.tail _ (List.Mem.tail _ (List.Mem.head _))))), (fun q h => absurd h List.not_mem_nil)⟩)⟩)⟩)⟩)⟩) (hk A _ Is19 JRLx_s19 JFEQ_s19 JREQ_s19 JSEQ_s19 JARJ_s19 JPTJ_s19 (by first | exact oq_f34933ba ws19_89 ws17_89 p1 b16.1 | omega) (by first | exact oq_d7ce4408 ws19_12 ws17_12 p2 | omega) (by first | exact oq_5bcdc35f ws19_74 ws19_0 ws17_74 ws17_0 p3 | omega) (by first | exact oq_5bcdc35f ws19_90 ws19_9 ws17_90 ws17_9 p4 | omega) (by first | exact oq_5bcdc35f ws19_98 ws19_20 ws17_98 ws17_20 p5 | omega) (by first | exact oq_5bcdc35f ws19_97 ws19_28 ws17_97 ws17_28 p6 | omega) (by first | exact oq_5bcdc35f ws19_99 ws19_32 ws17_99 ws17_32 p7 | omega) (by first | exact oq_5bcdc35f ws19_107 ws19_70 ws17_107 ws17_70 p8 | omega) (by first | exact oq_5bc06b03 ws19_83 ws19_12 ws17_83 p9 ws17_12 | omega))
theorem lc_4 (G : GX l s0 D tys a0 dT) (GR : RS0 s0) (SF : SF0 s0) (GT : TXs0 s0) (GW : TXw0 s0) {k : kx_T} (X : AX k 350 dT) (E : kL k = l ∧ kS0 k = s0 ∧ kD k = D ∧ kR k = room_1) {q1 L : Nat} {xs : Nat → Int32} (S : SX k q1 L xs) (hL : L ≤ 3072) (I : Bd s) (jR : RLx s) (jFEQ : FEQ s) (jREQ : REQ 39 234 28 s) (jSEQ : SEQ s) (jARJ : ARJ s) (jPTJ : PTJ s) (p1 : iI s 89 = 1) (p2 : iI s 12 ≤ 8) (p3 : iI s 0 = iI s 74) (p4 : iI s 9 = iI s 90) (p5 : iI s 20 = iI s 98) (p6 : iI s 28 = iI s 97) (p7 : iI s 32 = iI s 99) (p8 : iI s 70 = iI s 107) (p9 : iI s 12 = iI s 83) {i : Int} (hi : 0 ≤ i ∧ i + 6 ≤ (L : Int)) {ce sl : Nat} (hce : ce + 29 ≤ 601024) (hsl : sl + 222 ≤ 7293034) (hk : ∀ (A : Nat → Nat) (t : PS), Bd t → RLx t → FEQ t → REQ 39 234 28 t → SEQ t → ARJ t → PTJ t → iI t 89 = 1 → iI t 12 ≤ 8 → iI t 0 = iI t 74 → iI t 9 = iI t 90 → iI t 20 = iI t 98 → iI t 28 = iI t 97 → iI t 32 = iI t 99 → iI t 70 = iI t 107 → iI t 12 = iI t 83 → WS k 1866 [(0, .ref q1), (1, .ref (A 0)), (2, .ref (A 179)), (3, .ref (A 517)), (4, .int (Int32.ofInt i))] [] (Wd A dT t) (ce + 29) (sl + 222)) : WS k 374 [(0, .ref q1), (1, .ref (A 0)), (2, .ref (A 179)), (3, .ref (A 517)), (4, .int (Int32.ofInt i))] [] (Wd A dT s) ce sl := by
  have F : Fm [73] [1460] s s := fm_rf _ _ s
  have b1 := bi_0 I
  have b2 := bi_74 I
  have b3 := bi_9 I
  have b4 := bi_90 I
  have b5 := bi_20 I
  have b6 := bi_98 I
  have b7 := bi_28 I
  have b8 := bi_97 I
  have b9 := bi_32 I
  have b10 := bi_99 I
  have b11 := bi_70 I
  have b12 := bi_107 I
  have b13 := bi_12 I
  have b14 := bi_83 I
  have b15 := bi_12 I
  have b16 := bi_89 I
  refine z_aload_n X (x := A 0) rfl (List.Mem.tail _ (List.Mem.head _)) (z_aload_n X (x := q1) rfl (List.Mem.head _) (z_load X (x := i) rfl (List.Mem.tail _ (List.Mem.tail _ (List.Mem.tail _ (List.Mem.tail _ (List.Mem.head _))))) (z_const X rfl (z_add X rfl (z_sld X S hL rfl (show 0 ≤ (i + 1) ∧ (i + 1) < (L : Int) by first | exact sx_in hi (by decide) | omega) ?_)))))
  have sr17 : rng (sc xs (i + 1)) := sc_rng
  refine z_aload_n X (x := q1) rfl (List.Mem.head _) (z_load X (x := i) rfl (List.Mem.tail _ (List.Mem.tail _ (List.Mem.tail _ (List.Mem.tail _ (List.Mem.head _))))) (z_const X rfl (z_add X rfl (z_sld X S hL rfl (show 0 ≤ (i + 2) ∧ (i + 2) < (L : Int) by first | exact sx_in hi (by decide) | omega) ?_))))
  have sr18 : rng (sc xs (i + 2)) := sc_rng
  refine z_aload_n X (x := A 517) rfl (List.Mem.tail _ (List.Mem.tail _ (List.Mem.tail _ (List.Mem.head _)))) (z_callL X (rm := rmN 316) (As := [.ref (A 0), .int (Int32.ofInt (sc xs (i + 1))), .int (Int32.ofInt (sc xs (i + 2))), .ref (A 517)]) (st := []) rfl (by decide) rfl (by rw [E.1, E.2.1, E.2.2.1]; exact lw_way2 G I (by omega) (by omega)) ⟨by rw [E.2.2.2]; exact (show 8 + 1 ≤ 2048 by decide), by rw [E.2.2.2]; exact (show 8 + (5 + 11) + 144 ≤ 84000 by decide), by rw [E.2.2.2]; exact (show ce + 1 ≤ 601024 by first | exact rmo_1 hce (by decide) | exact rmo_2 hce (by decide) | omega), by rw [E.2.2.2]; exact (show sl + 6 ≤ 7293034 by first | exact rmo_1 hsl (by decide) | exact rmo_2 hsl (by decide) | omega)⟩ (Nat.le_of_ble_eq_true rfl) (fun vv A s19 hA2 hq => ?_) (fun ee A s19 hA2 hq => ?_))
  rotate_left
  · obtain ⟨Is19, Fs19, e20, hv, hrs19, hps19⟩ := hq; cases hv
  obtain ⟨Is19, Fs19, e20, hv, hrs19, hps19⟩ := hq
  cases hv
  rw [← hA2 0 (by decide)]
  rw [← hA2 179 (by decide)]
  rw [← hA2 517 (by decide)]
  have JRLx_s19 : RLx s19 := RLx_fm Fs19 (by decide) jR
  have JFEQ_s19 : FEQ s19 := FEQ_fm Fs19 (by decide) jFEQ
  have JREQ_s19 : REQ 39 234 28 s19 := REQ_fm Fs19 (by decide) jREQ
  have JSEQ_s19 : SEQ s19 := SEQ_fm Fs19 (by decide) jSEQ
  have JARJ_s19 : ARJ s19 := ARJ_fm Fs19 ⟨by decide +kernel, by decide +kernel, by decide +kernel, by decide +kernel, by decide +kernel, by decide +kernel, by decide +kernel, by decide +kernel⟩ jARJ
  have JPTJ_s19 : PTJ s19 := PTJ_fm Fs19 (by decide +kernel) jPTJ
  have ws19_0 : iI s19 0 = iI s 0 := fm_iq Fs19 rfl
  have ws19_74 : iI s19 74 = iI s 74 := fm_iq Fs19 rfl
  have ws19_9 : iI s19 9 = iI s 9 := fm_iq Fs19 rfl
  have ws19_90 : iI s19 90 = iI s 90 := fm_iq Fs19 rfl
  have ws19_20 : iI s19 20 = iI s 20 := fm_iq Fs19 rfl
  have ws19_98 : iI s19 98 = iI s 98 := fm_iq Fs19 rfl
  have ws19_28 : iI s19 28 = iI s 28 := fm_iq Fs19 rfl
  have ws19_97 : iI s19 97 = iI s 97 := fm_iq Fs19 rfl
  have ws19_32 : iI s19 32 = iI s 32 := fm_iq Fs19 rfl
  have ws19_99 : iI s19 99 = iI s 99 := fm_iq Fs19 rfl
  have ws19_70 : iI s19 70 = iI s 70 := fm_iq Fs19 rfl
  have ws19_107 : iI s19 107 = iI s 107 := fm_iq Fs19 rfl
  have ws19_12 : iI s19 12 = iI s 12 := fm_iq Fs19 rfl
  have ws19_83 : iI s19 83 = iI s 83 := fm_iq Fs19 rfl
  have ws19_12 : iI s19 12 = iI s 12 := fm_iq Fs19 rfl
  have ws19_89 : iI s19 89 = iI s 89 := fm_iq Fs19 rfl
  show WS k 391 [(0, .ref q1), (1, .ref (A 0)), (2, .ref (A 179)), (3, .ref (A 517)), (4, .int (Int32.ofInt i))] [.int (Int32.ofInt e20)] (Wd A dT s19) (ce + 1) (sl + 6)
  refine z_store X (lv' := [(5, .int (Int32.ofInt e20)), (0, .ref q1), (1, .ref (A 0)), (2, .ref (A 179)), (3, .ref (A 517)), (4, .int (Int32.ofInt i))]) rfl (by decide) (fun _ h => h) (z_aload_n X (x := A 179) rfl (List.Mem.tail _ (List.Mem.tail _ (List.Mem.tail _ (List.Mem.head _)))) (z_aload_n X (x := q1) rfl (List.Mem.tail _ (List.Mem.head _)) (z_load X (x := i) rfl (List.Mem.tail _ (List.Mem.tail _ (List.Mem.tail _ (List.Mem.tail _ (List.Mem.tail _ (List.Mem.head _)))))) (z_const X rfl (z_add X rfl (z_sld X S hL rfl (show 0 ≤ (i + 1) ∧ (i + 1) < (L : Int) by first | exact sx_in hi (by decide) | omega) ?_))))))
  have sr21 : rng (sc xs (i + 1)) := sc_rng
  refine z_aload_n X (x := q1) rfl (List.Mem.tail _ (List.Mem.head _)) (z_load X (x := i) rfl (List.Mem.tail _ (List.Mem.tail _ (List.Mem.tail _ (List.Mem.tail _ (List.Mem.tail _ (List.Mem.head _)))))) (z_const X rfl (z_add X rfl (z_sld X S hL rfl (show 0 ≤ (i + 2) ∧ (i + 2) < (L : Int) by first | exact sx_in hi (by decide) | omega) ?_))))
  have sr22 : rng (sc xs (i + 2)) := sc_rng
  refine z_callV X 179 (rm := rmN 217) (As := [.int (Int32.ofInt (sc xs (i + 1))), .int (Int32.ofInt (sc xs (i + 2)))]) (st := []) rfl rfl (by decide) rfl (by rw [E.1, E.2.1, E.2.2.1]; exact k_way2 G Is19 (by first | exact ⟨sr21.1, sr21.2⟩ | omega) (by first | exact ⟨sr22.1, sr22.2⟩ | omega)) ⟨by rw [E.2.2.2]; exact (show 7 + 1 ≤ 2048 from oq_4e6106eb), by rw [E.2.2.2]; exact (show 8 + (3 + 11) + 122 ≤ 84000 from oq_38d194b9), by rw [E.2.2.2]; exact (show (ce + 1) + 0 ≤ 601024 by first | (clear hps19; omega) | omega), by rw [E.2.2.2]; exact (show (sl + 6) + 0 ≤ 7293034 by first | (clear hps19; omega) | omega)⟩ (Nat.le_of_ble_eq_true rfl) (fun vv s23 hq => ?_) (fun ee s23 hq => ?_)
  rotate_left
  · obtain ⟨Is23, Fs23, e24, hv, hrs23, hps23⟩ := hq; cases hv
  obtain ⟨Is23, Fs23, e24, hv, hrs23, hps23⟩ := hq
  cases hv
  have JRLx_s23 : RLx s23 := RLx_fm Fs23 (by decide) JRLx_s19
  have JFEQ_s23 : FEQ s23 := FEQ_fm Fs23 (by decide) JFEQ_s19
  have JREQ_s23 : REQ 39 234 28 s23 := REQ_fm Fs23 (by decide) JREQ_s19
  have JSEQ_s23 : SEQ s23 := SEQ_fm Fs23 (by decide) JSEQ_s19
  have JARJ_s23 : ARJ s23 := ARJ_fm Fs23 ⟨by decide +kernel, by decide +kernel, by decide +kernel, by decide +kernel, by decide +kernel, by decide +kernel, by decide +kernel, by decide +kernel⟩ JARJ_s19
  have JPTJ_s23 : PTJ s23 := PTJ_fm Fs23 (by decide +kernel) JPTJ_s19
  have ws23_0 : iI s23 0 = iI s19 0 := fm_iq Fs23 rfl
  have ws23_74 : iI s23 74 = iI s19 74 := fm_iq Fs23 rfl
  have ws23_9 : iI s23 9 = iI s19 9 := fm_iq Fs23 rfl
  have ws23_90 : iI s23 90 = iI s19 90 := fm_iq Fs23 rfl
  have ws23_20 : iI s23 20 = iI s19 20 := fm_iq Fs23 rfl
  have ws23_98 : iI s23 98 = iI s19 98 := fm_iq Fs23 rfl
  have ws23_28 : iI s23 28 = iI s19 28 := fm_iq Fs23 rfl
  have ws23_97 : iI s23 97 = iI s19 97 := fm_iq Fs23 rfl
  have ws23_32 : iI s23 32 = iI s19 32 := fm_iq Fs23 rfl
  have ws23_99 : iI s23 99 = iI s19 99 := fm_iq Fs23 rfl
  have ws23_70 : iI s23 70 = iI s19 70 := fm_iq Fs23 rfl
  have ws23_107 : iI s23 107 = iI s19 107 := fm_iq Fs23 rfl
  have ws23_12 : iI s23 12 = iI s19 12 := fm_iq Fs23 rfl
  have ws23_83 : iI s23 83 = iI s19 83 := fm_iq Fs23 rfl
  have ws23_12 : iI s23 12 = iI s19 12 := fm_iq Fs23 rfl
  have ws23_89 : iI s23 89 = iI s19 89 := fm_iq Fs23 rfl
  have wos23 : iO s23 = iO s19 := fm_o Fs23 (by decide)
  show WS k 409 [(5, .int (Int32.ofInt e20)), (0, .ref q1), (1, .ref (A 0)), (2, .ref (A 179)), (3, .ref (A 517)), (4, .int (Int32.ofInt i))] [.int (Int32.ofInt e24)] (Wd A dT s23) (ce + 1) (sl + 6)
  refine z_store X (lv' := [(6, .int (Int32.ofInt e24)), (5, .int (Int32.ofInt e20)), (0, .ref q1), (1, .ref (A 0)), (2, .ref (A 179)), (3, .ref (A 517)), (4, .int (Int32.ofInt i))]) rfl (by decide) (fun _ h => h) (z_goto X (t := 1866) rfl rfl (w_widen (ce' := ce + 29) (sl' := sl + 222) (by first | exact Nat.le_add_right _ _ | exact Nat.add_le_add_left (by decide) _ | omega) (by first | exact Nat.le_add_right _ _ | exact Nat.add_le_add_left (by decide) _ | omega) ?_))
  exact WS_lv (lv := [(0, .ref q1), (1, .ref (A 0)), (2, .ref (A 179)), (3, .ref (A 517)), (4, .int (Int32.ofInt i))]) (List.forall_mem_cons.mpr ⟨(List.Mem.tail _ (List.Mem.tail _ (List.Mem.head _))), (List.forall_mem_cons.mpr ⟨(List.Mem.tail _ (List.Mem.tail _ (List.Mem.tail _ (List.Mem.head _)))), (List.forall_mem_cons.mpr ⟨(List.Mem.tail _ (List.Mem.tail _ (List.Mem.tail _ (List.Mem.tail _ (List.Mem.head _))))), (List.forall_mem_cons.mpr ⟨(List.Mem.tail _ (List.Mem.tail _ (List.Mem.tail _ (List.Mem.tail _ (List.Mem.tail _ (List.Mem.head _)))))), (List.forall_mem_cons.mpr ⟨(List.Mem.tail _ (List.Mem.tail _ (List.Mem.tail _ (List.Mem.tail _ (List.Mem.tail _ (List.Mem.tail _ (List.Mem.head _))))))), (fun q h => absurd h List.not_mem_nil)⟩)⟩)⟩)⟩)⟩) (hk A _ Is23 JRLx_s23 JFEQ_s23 JREQ_s23 JSEQ_s23 JARJ_s23 JPTJ_s23 (by first | exact oq_f34933ba ws23_89 ws19_89 p1 b16.1 | omega) (by first | exact oq_d7ce4408 ws23_12 ws19_12 p2 | omega) (by first | exact oq_5bcdc35f ws23_74 ws23_0 ws19_74 ws19_0 p3 | omega) (by first | exact oq_5bcdc35f ws23_90 ws23_9 ws19_90 ws19_9 p4 | omega) (by first | exact oq_5bcdc35f ws23_98 ws23_20 ws19_98 ws19_20 p5 | omega) (by first | exact oq_5bcdc35f ws23_97 ws23_28 ws19_97 ws19_28 p6 | omega) (by first | exact oq_5bcdc35f ws23_99 ws23_32 ws19_99 ws19_32 p7 | omega) (by first | exact oq_5bcdc35f ws23_107 ws23_70 ws19_107 ws19_70 p8 | omega) (by first | exact oq_5bc06b03 ws23_83 ws23_12 ws19_83 p9 ws19_12 | omega))
theorem lc_5 (G : GX l s0 D tys a0 dT) (GR : RS0 s0) (SF : SF0 s0) (GT : TXs0 s0) (GW : TXw0 s0) {k : kx_T} (X : AX k 350 dT) (E : kL k = l ∧ kS0 k = s0 ∧ kD k = D ∧ kR k = room_1) {q1 L : Nat} {xs : Nat → Int32} (S : SX k q1 L xs) (hL : L ≤ 3072) (I : Bd s) (jR : RLx s) (jFEQ : FEQ s) (jREQ : REQ 39 234 28 s) (jSEQ : SEQ s) (jARJ : ARJ s) (jPTJ : PTJ s) (p1 : iI s 89 = 1) (p2 : iI s 12 ≤ 8) (p3 : iI s 0 = iI s 74) (p4 : iI s 9 = iI s 90) (p5 : iI s 20 = iI s 98) (p6 : iI s 28 = iI s 97) (p7 : iI s 32 = iI s 99) (p8 : iI s 70 = iI s 107) (p9 : iI s 12 = iI s 83) {i : Int} (hi : 0 ≤ i ∧ i + 6 ≤ (L : Int)) {ce sl : Nat} (hce : ce + 29 ≤ 601024) (hsl : sl + 222 ≤ 7293034) (hk : ∀ (A : Nat → Nat) (t : PS), Bd t → RLx t → FEQ t → REQ 39 234 28 t → SEQ t → ARJ t → PTJ t → iI t 89 = 1 → iI t 12 ≤ 8 → iI t 0 = iI t 74 → iI t 9 = iI t 90 → iI t 20 = iI t 98 → iI t 28 = iI t 97 → iI t 32 = iI t 99 → iI t 70 = iI t 107 → iI t 12 = iI t 83 → WS k 1866 [(0, .ref q1), (1, .ref (A 0)), (2, .ref (A 179)), (3, .ref (A 517)), (4, .int (Int32.ofInt i))] [] (Wd A dT t) (ce + 29) (sl + 222)) : WS k 414 [(0, .ref q1), (1, .ref (A 0)), (2, .ref (A 179)), (3, .ref (A 517)), (4, .int (Int32.ofInt i))] [] (Wd A dT s) ce sl := by
  have F : Fm [73] [8, 11, 12, 13, 14, 190, 191, 192, 193, 194, 195, 196, 197, 198, 199, 200, 201] s s := fm_rf _ _ s
  have b1 := bi_0 I
  have b2 := bi_74 I
  have b3 := bi_9 I
  have b4 := bi_90 I
  have b5 := bi_20 I
  have b6 := bi_98 I
  have b7 := bi_28 I
  have b8 := bi_97 I
  have b9 := bi_32 I
  have b10 := bi_99 I
  have b11 := bi_70 I
  have b12 := bi_107 I
  have b13 := bi_12 I
  have b14 := bi_83 I
  have b15 := bi_12 I
  have b16 := bi_89 I
  refine z_aload_n X (x := A 0) rfl (List.Mem.tail _ (List.Mem.head _)) (z_aload_n X (x := q1) rfl (List.Mem.head _) (z_load X (x := i) rfl (List.Mem.tail _ (List.Mem.tail _ (List.Mem.tail _ (List.Mem.tail _ (List.Mem.head _))))) (z_const X rfl (z_add X rfl (z_sld X S hL rfl (show 0 ≤ (i + 1) ∧ (i + 1) < (L : Int) by first | exact sx_in hi (by decide) | omega) ?_)))))
  have sr17 : rng (sc xs (i + 1)) := sc_rng
  refine z_aload_n X (x := q1) rfl (List.Mem.head _) (z_load X (x := i) rfl (List.Mem.tail _ (List.Mem.tail _ (List.Mem.tail _ (List.Mem.tail _ (List.Mem.head _))))) (z_const X rfl (z_add X rfl (z_sld X S hL rfl (show 0 ≤ (i + 2) ∧ (i + 2) < (L : Int) by first | exact sx_in hi (by decide) | omega) ?_))))
  have sr18 : rng (sc xs (i + 2)) := sc_rng
  refine z_aload_n X (x := q1) rfl (List.Mem.head _) (z_load X (x := i) rfl (List.Mem.tail _ (List.Mem.tail _ (List.Mem.tail _ (List.Mem.tail _ (List.Mem.head _))))) (z_const X rfl (z_add X rfl (z_sld X S hL rfl (show 0 ≤ (i + 3) ∧ (i + 3) < (L : Int) by first | exact sx_in hi (by decide) | omega) ?_))))
  have sr19 : rng (sc xs (i + 3)) := sc_rng
  refine z_aload_n X (x := q1) rfl (List.Mem.head _) (z_load X (x := i) rfl (List.Mem.tail _ (List.Mem.tail _ (List.Mem.tail _ (List.Mem.tail _ (List.Mem.head _))))) (z_const X rfl (z_add X rfl (z_sld X S hL rfl (show 0 ≤ (i + 4) ∧ (i + 4) < (L : Int) by first | exact sx_in hi (by decide) | omega) ?_))))
  have sr20 : rng (sc xs (i + 4)) := sc_rng
  refine z_callL X (rm := rmN 317) (As := [.ref (A 0), .int (Int32.ofInt (sc xs (i + 1))), .int (Int32.ofInt (sc xs (i + 2))), .int (Int32.ofInt (sc xs (i + 3))), .int (Int32.ofInt (sc xs (i + 4)))]) (st := []) rfl (by decide) rfl (by rw [E.1, E.2.1, E.2.2.1]; exact lw_flow5 G I jARJ.2.2.1.1 jARJ.2.2.2.2.1 (by omega) (by omega) (by omega) (by omega)) ⟨by rw [E.2.2.2]; exact (show 11 + 1 ≤ 2048 by decide), by rw [E.2.2.2]; exact (show 8 + (6 + 11) + 219 ≤ 84000 by decide), by rw [E.2.2.2]; exact (show ce + 5 ≤ 601024 by first | exact rmo_1 hce (by decide) | exact rmo_2 hce (by decide) | omega), by rw [E.2.2.2]; exact (show sl + 30 ≤ 7293034 by first | exact rmo_1 hsl (by decide) | exact rmo_2 hsl (by decide) | omega)⟩ (Nat.le_of_ble_eq_true rfl) (fun vv A s21 hA2 hq => ?_) (fun ee A s21 hA2 hq => ?_)
  rotate_left
  · obtain ⟨Is21, Fs21, JTWJ_s21, e22, hv, hrs21, hps21⟩ := hq; cases hv
  obtain ⟨Is21, Fs21, JTWJ_s21, e22, hv, hrs21, hps21⟩ := hq
  cases hv
  rw [← hA2 0 (by decide)]
  rw [← hA2 179 (by decide)]
  rw [← hA2 517 (by decide)]
  have JRLx_s21 : RLx s21 := RLx_fm Fs21 (by decide) jR
  have JFEQ_s21 : FEQ s21 := FEQ_fm Fs21 (by decide) jFEQ
  have JREQ_s21 : REQ 39 234 28 s21 := REQ_fm Fs21 (by decide) jREQ
  have JSEQ_s21 : SEQ s21 := SEQ_fm Fs21 (by decide) jSEQ
  have JPTJ_s21 : PTJ s21 := PTJ_fm Fs21 (by decide +kernel) jPTJ
  have JWQJ_s21 : WQJ s21 := WQJ_fm Fs21 (by decide +kernel) jARJ.1
  have JLIJ_s21 : LIJ s21 := LIJ_fm Fs21 (by decide +kernel) jARJ.2.1
  have JAIR_s21 : AIR s21 := AIR_fm Fs21 (by decide +kernel) jARJ.2.2.2.2.2.1
  have JCPL_s21 : CPL s21 := CPL_fm Fs21 (by decide +kernel) jARJ.2.2.2.2.2.2.1
  have JRLJ_s21 : RLJ s21 := RLJ_fm Fs21 (by decide +kernel) jARJ.2.2.2.2.2.2.2
  have ws21_0 : iI s21 0 = iI s 0 := fm_iq Fs21 rfl
  have ws21_74 : iI s21 74 = iI s 74 := fm_iq Fs21 rfl
  have ws21_9 : iI s21 9 = iI s 9 := fm_iq Fs21 rfl
  have ws21_90 : iI s21 90 = iI s 90 := fm_iq Fs21 rfl
  have ws21_20 : iI s21 20 = iI s 20 := fm_iq Fs21 rfl
  have ws21_98 : iI s21 98 = iI s 98 := fm_iq Fs21 rfl
  have ws21_28 : iI s21 28 = iI s 28 := fm_iq Fs21 rfl
  have ws21_97 : iI s21 97 = iI s 97 := fm_iq Fs21 rfl
  have ws21_32 : iI s21 32 = iI s 32 := fm_iq Fs21 rfl
  have ws21_99 : iI s21 99 = iI s 99 := fm_iq Fs21 rfl
  have ws21_70 : iI s21 70 = iI s 70 := fm_iq Fs21 rfl
  have ws21_107 : iI s21 107 = iI s 107 := fm_iq Fs21 rfl
  have ws21_12 : iI s21 12 = iI s 12 := fm_iq Fs21 rfl
  have ws21_83 : iI s21 83 = iI s 83 := fm_iq Fs21 rfl
  have ws21_12 : iI s21 12 = iI s 12 := fm_iq Fs21 rfl
  have ws21_89 : iI s21 89 = iI s 89 := fm_iq Fs21 rfl
  have wos21 : iO s21 = iO s := fm_o Fs21 (by decide)
  show WS k 442 [(0, .ref q1), (1, .ref (A 0)), (2, .ref (A 179)), (3, .ref (A 517)), (4, .int (Int32.ofInt i))] [.int (Int32.ofInt e22)] (Wd A dT s21) (ce + 5) (sl + 30)
  refine z_store X (lv' := [(5, .int (Int32.ofInt e22)), (0, .ref q1), (1, .ref (A 0)), (2, .ref (A 179)), (3, .ref (A 517)), (4, .int (Int32.ofInt i))]) rfl (by decide) (fun _ h => h) (z_aload_n X (x := A 179) rfl (List.Mem.tail _ (List.Mem.tail _ (List.Mem.tail _ (List.Mem.head _)))) (z_aload_n X (x := q1) rfl (List.Mem.tail _ (List.Mem.head _)) (z_load X (x := i) rfl (List.Mem.tail _ (List.Mem.tail _ (List.Mem.tail _ (List.Mem.tail _ (List.Mem.tail _ (List.Mem.head _)))))) (z_const X rfl (z_add X rfl (z_sld X S hL rfl (show 0 ≤ (i + 1) ∧ (i + 1) < (L : Int) by first | exact sx_in hi (by decide) | omega) ?_))))))
  have sr23 : rng (sc xs (i + 1)) := sc_rng
  refine z_aload_n X (x := q1) rfl (List.Mem.tail _ (List.Mem.head _)) (z_load X (x := i) rfl (List.Mem.tail _ (List.Mem.tail _ (List.Mem.tail _ (List.Mem.tail _ (List.Mem.tail _ (List.Mem.head _)))))) (z_const X rfl (z_add X rfl (z_sld X S hL rfl (show 0 ≤ (i + 2) ∧ (i + 2) < (L : Int) by first | exact sx_in hi (by decide) | omega) ?_))))
  have sr24 : rng (sc xs (i + 2)) := sc_rng
  refine z_aload_n X (x := q1) rfl (List.Mem.tail _ (List.Mem.head _)) (z_load X (x := i) rfl (List.Mem.tail _ (List.Mem.tail _ (List.Mem.tail _ (List.Mem.tail _ (List.Mem.tail _ (List.Mem.head _)))))) (z_const X rfl (z_add X rfl (z_sld X S hL rfl (show 0 ≤ (i + 3) ∧ (i + 3) < (L : Int) by first | exact sx_in hi (by decide) | omega) ?_))))
  have sr25 : rng (sc xs (i + 3)) := sc_rng
  refine z_aload_n X (x := q1) rfl (List.Mem.tail _ (List.Mem.head _)) (z_load X (x := i) rfl (List.Mem.tail _ (List.Mem.tail _ (List.Mem.tail _ (List.Mem.tail _ (List.Mem.tail _ (List.Mem.head _)))))) (z_const X rfl (z_add X rfl (z_sld X S hL rfl (show 0 ≤ (i + 4) ∧ (i + 4) < (L : Int) by first | exact sx_in hi (by decide) | omega) ?_))))
  have sr26 : rng (sc xs (i + 4)) := sc_rng
  refine z_callV X 179 (rm := rmN 218) (As := [.int (Int32.ofInt (sc xs (i + 1))), .int (Int32.ofInt (sc xs (i + 2))), .int (Int32.ofInt (sc xs (i + 3))), .int (Int32.ofInt (sc xs (i + 4)))]) (st := []) rfl rfl (by decide) rfl (by rw [E.1, E.2.1, E.2.2.1]; exact k_flow3 G Is21 (by first | exact ⟨sr23.1, sr23.2⟩ | omega) (by first | exact ⟨sr24.1, sr24.2⟩ | omega) (by first | exact ⟨sr25.1, sr25.2⟩ | omega) (by first | exact ⟨sr26.1, sr26.2⟩ | omega)) ⟨by rw [E.2.2.2]; exact (show 7 + 1 ≤ 2048 from oq_4e6106eb), by rw [E.2.2.2]; exact (show 8 + (6 + 11) + 122 ≤ 84000 from oq_380e4f97), by rw [E.2.2.2]; exact (show (ce + 5) + 0 ≤ 601024 by first | (clear hps21; omega) | omega), by rw [E.2.2.2]; exact (show (sl + 30) + 0 ≤ 7293034 by first | (clear hps21; omega) | omega)⟩ (Nat.le_of_ble_eq_true rfl) (fun vv s27 hq => ?_) (fun ee s27 hq => ?_)
  rotate_left
  · obtain ⟨Is27, Fs27, hv, hps27⟩ := hq; cases hv
  obtain ⟨Is27, Fs27, hv, hps27⟩ := hq
  cases hv
  have JRLx_s27 : RLx s27 := RLx_fm Fs27 (by decide) JRLx_s21
  have JFEQ_s27 : FEQ s27 := FEQ_fm Fs27 (by decide) JFEQ_s21
  have JREQ_s27 : REQ 39 234 28 s27 := REQ_fm Fs27 (by decide) JREQ_s21
  have JSEQ_s27 : SEQ s27 := SEQ_fm Fs27 (by decide) JSEQ_s21
  have JPTJ_s27 : PTJ s27 := PTJ_fm Fs27 (by decide +kernel) JPTJ_s21
  have JWQJ_s27 : WQJ s27 := WQJ_fm Fs27 (by decide +kernel) JWQJ_s21
  have JLIJ_s27 : LIJ s27 := LIJ_fm Fs27 (by decide +kernel) JLIJ_s21
  have JAIR_s27 : AIR s27 := AIR_fm Fs27 (by decide +kernel) JAIR_s21
  have JCPL_s27 : CPL s27 := CPL_fm Fs27 (by decide +kernel) JCPL_s21
  have JRLJ_s27 : RLJ s27 := RLJ_fm Fs27 (by decide +kernel) JRLJ_s21
  have JTWJ_s27 : TWJ s27 := TWJ_fm Fs27 (by decide +kernel) JTWJ_s21
  have ws27_0 : iI s27 0 = iI s21 0 := fm_iq Fs27 rfl
  have ws27_74 : iI s27 74 = iI s21 74 := fm_iq Fs27 rfl
  have ws27_9 : iI s27 9 = iI s21 9 := fm_iq Fs27 rfl
  have ws27_90 : iI s27 90 = iI s21 90 := fm_iq Fs27 rfl
  have ws27_20 : iI s27 20 = iI s21 20 := fm_iq Fs27 rfl
  have ws27_98 : iI s27 98 = iI s21 98 := fm_iq Fs27 rfl
  have ws27_28 : iI s27 28 = iI s21 28 := fm_iq Fs27 rfl
  have ws27_97 : iI s27 97 = iI s21 97 := fm_iq Fs27 rfl
  have ws27_32 : iI s27 32 = iI s21 32 := fm_iq Fs27 rfl
  have ws27_99 : iI s27 99 = iI s21 99 := fm_iq Fs27 rfl
  have ws27_70 : iI s27 70 = iI s21 70 := fm_iq Fs27 rfl
  have ws27_107 : iI s27 107 = iI s21 107 := fm_iq Fs27 rfl
  have ws27_12 : iI s27 12 = iI s21 12 := fm_iq Fs27 rfl
  have ws27_83 : iI s27 83 = iI s21 83 := fm_iq Fs27 rfl
  have ws27_12 : iI s27 12 = iI s21 12 := fm_iq Fs27 rfl
  have ws27_89 : iI s27 89 = iI s21 89 := fm_iq Fs27 rfl
  have wos27 : iO s27 = iO s21 := fm_o Fs27 (by decide)
  show WS k 472 [(5, .int (Int32.ofInt e22)), (0, .ref q1), (1, .ref (A 0)), (2, .ref (A 179)), (3, .ref (A 517)), (4, .int (Int32.ofInt i))] [] (Wd A dT s27) (ce + 5) (sl + 30)
  rcases hps21 with cc | cc | cc
  ·
    rcases hps27 with mm | mm | mm
    ·
      have jb29 : ARJ s27 := ⟨JWQJ_s27, JLIJ_s27, mqj_flow jARJ.2.2.1 cc.2.2.2.2.2.2.2.2.2.2.1 cc.2.2.2.2.2.2.2.2.2.2.2.1 cc.2.2.2.2.2.2.2.2.2.2.2.2.1 cc.2.2.2.2.2.2.2.2.2.2.2.2.2 (smr_fm Fs21 (by decide +kernel)) (sam_fm Fs21 (by decide)) (sam_fm Fs21 (by decide)) mm.2.2.2.2.2.2.2.2.2.2 (sa4_fm Fs27 (by decide +kernel)) (sam_fm Fs27 (by decide)) (sam_fm Fs27 (by decide)) rfl rfl rfl rfl, nzj_st (nzj_fl jARJ.2.2.2.1 cc.2.2.2.2.2.2.2.2.2.2.2.1 (by first | (clear hps27 hps21; omega) | (clear hps21; omega) | omega) (by first | (clear hps27 hps21; omega) | (clear hps21; omega) | omega)) (by first | (clear hps27 hps21; omega) | (clear hps21; omega) | omega) (sam_fm Fs27 (by decide +kernel)), JTWJ_s27, JAIR_s27, JCPL_s27, JRLJ_s27⟩
      refine z_goto X (t := 1866) rfl rfl (w_widen (ce' := ce + 29) (sl' := sl + 222) (by first | exact Nat.le_add_right _ _ | exact Nat.add_le_add_left (by decide) _ | omega) (by first | exact Nat.le_add_right _ _ | exact Nat.add_le_add_left (by decide) _ | omega) ?_)
      exact WS_lv (lv := [(0, .ref q1), (1, .ref (A 0)), (2, .ref (A 179)), (3, .ref (A 517)), (4, .int (Int32.ofInt i))]) (List.forall_mem_cons.mpr ⟨(List.Mem.tail _ (List.Mem.head _)), (List.forall_mem_cons.mpr ⟨(List.Mem.tail _ (List.Mem.tail _ (List.Mem.head _))), (List.forall_mem_cons.mpr ⟨(List.Mem.tail _ (List.Mem.tail _ (List.Mem.tail _ (List.Mem.head _)))), (List.forall_mem_cons.mpr ⟨(List.Mem.tail _ (List.Mem.tail _ (List.Mem.tail _ (List.Mem.tail _ (List.Mem.head _))))), (List.forall_mem_cons.mpr ⟨(List.Mem.tail _ (List.Mem.tail _ (List.Mem.tail _ (List.Mem.tail _ (List.Mem.tail _ (List.Mem.head _)))))), (fun q h => absurd h List.not_mem_nil)⟩)⟩)⟩)⟩)⟩) (hk A _ Is27 JRLx_s27 JFEQ_s27 JREQ_s27 JSEQ_s27 jb29 JPTJ_s27 (by first | exact oq_f34933ba ws27_89 ws21_89 p1 b16.1 | omega) (by first | exact oq_d7ce4408 ws27_12 ws21_12 p2 | omega) (by first | exact oq_5bcdc35f ws27_74 ws27_0 ws21_74 ws21_0 p3 | omega) (by first | exact oq_5bcdc35f ws27_90 ws27_9 ws21_90 ws21_9 p4 | omega) (by first | exact oq_5bcdc35f ws27_98 ws27_20 ws21_98 ws21_20 p5 | omega) (by first | exact oq_5bcdc35f ws27_97 ws27_28 ws21_97 ws21_28 p6 | omega) (by first | exact oq_5bcdc35f ws27_99 ws27_32 ws21_99 ws21_32 p7 | omega) (by first | exact oq_5bcdc35f ws27_107 ws27_70 ws21_107 ws21_70 p8 | omega) (by first | exact oq_5bc06b03 ws27_83 ws27_12 ws21_83 p9 ws21_12 | omega))
    ·
      exfalso
      omega
    ·
      exfalso
      omega
  ·
    rcases hps27 with mm | mm | mm
    ·
      exfalso
      omega
    ·
      have jb30 : ARJ s27 := ⟨JWQJ_s27, JLIJ_s27, mqj_sam jARJ.2.2.1 (sa4_ts cc.2.2 (sa4_fm Fs27 (by decide +kernel))) (smr_ts (smr_fm Fs21 (by decide +kernel)) mm.2.2) (sam_ts (sam_fm Fs21 (by decide)) (sam_fm Fs27 (by decide))) (sam_ts (sam_fm Fs21 (by decide)) (sam_fm Fs27 (by decide))), nzj_st jARJ.2.2.2.1 (by first | (clear hps27 hps21; omega) | (clear hps21; omega) | omega) (sam_ts cc.2.2.1 (sam_fm Fs27 (by decide +kernel))), JTWJ_s27, JAIR_s27, JCPL_s27, JRLJ_s27⟩
      refine z_goto X (t := 1866) rfl rfl (w_widen (ce' := ce + 29) (sl' := sl + 222) (by first | exact Nat.le_add_right _ _ | exact Nat.add_le_add_left (by decide) _ | omega) (by first | exact Nat.le_add_right _ _ | exact Nat.add_le_add_left (by decide) _ | omega) ?_)
      exact WS_lv (lv := [(0, .ref q1), (1, .ref (A 0)), (2, .ref (A 179)), (3, .ref (A 517)), (4, .int (Int32.ofInt i))]) (List.forall_mem_cons.mpr ⟨(List.Mem.tail _ (List.Mem.head _)), (List.forall_mem_cons.mpr ⟨(List.Mem.tail _ (List.Mem.tail _ (List.Mem.head _))), (List.forall_mem_cons.mpr ⟨(List.Mem.tail _ (List.Mem.tail _ (List.Mem.tail _ (List.Mem.head _)))), (List.forall_mem_cons.mpr ⟨(List.Mem.tail _ (List.Mem.tail _ (List.Mem.tail _ (List.Mem.tail _ (List.Mem.head _))))), (List.forall_mem_cons.mpr ⟨(List.Mem.tail _ (List.Mem.tail _ (List.Mem.tail _ (List.Mem.tail _ (List.Mem.tail _ (List.Mem.head _)))))), (fun q h => absurd h List.not_mem_nil)⟩)⟩)⟩)⟩)⟩) (hk A _ Is27 JRLx_s27 JFEQ_s27 JREQ_s27 JSEQ_s27 jb30 JPTJ_s27 (by first | exact oq_f34933ba ws27_89 ws21_89 p1 b16.1 | omega) (by first | exact oq_d7ce4408 ws27_12 ws21_12 p2 | omega) (by first | exact oq_5bcdc35f ws27_74 ws27_0 ws21_74 ws21_0 p3 | omega) (by first | exact oq_5bcdc35f ws27_90 ws27_9 ws21_90 ws21_9 p4 | omega) (by first | exact oq_5bcdc35f ws27_98 ws27_20 ws21_98 ws21_20 p5 | omega) (by first | exact oq_5bcdc35f ws27_97 ws27_28 ws21_97 ws21_28 p6 | omega) (by first | exact oq_5bcdc35f ws27_99 ws27_32 ws21_99 ws21_32 p7 | omega) (by first | exact oq_5bcdc35f ws27_107 ws27_70 ws21_107 ws21_70 p8 | omega) (by first | exact oq_5bc06b03 ws27_83 ws27_12 ws21_83 p9 ws21_12 | omega))
    ·
      exfalso
      omega
  ·
    rcases hps27 with mm | mm | mm
    ·
      exfalso
      omega
    ·
      exfalso
      omega
    ·
      have jb31 : ARJ s27 := ⟨JWQJ_s27, JLIJ_s27, mqj_sam jARJ.2.2.1 (sa4_ts cc.2.2.2.2 (sa4_fm Fs27 (by decide +kernel))) (smr_ts (smr_fm Fs21 (by decide +kernel)) mm.2.2.2.2) (sam_ts (sam_fm Fs21 (by decide)) (sam_fm Fs27 (by decide))) (sam_ts (sam_fm Fs21 (by decide)) (sam_fm Fs27 (by decide))), nzj_st jARJ.2.2.2.1 (by first | (clear hps27 hps21; omega) | (clear hps21; omega) | omega) (sam_ts cc.2.2.2.2.1 (sam_fm Fs27 (by decide +kernel))), JTWJ_s27, JAIR_s27, JCPL_s27, JRLJ_s27⟩
      refine z_goto X (t := 1866) rfl rfl (w_widen (ce' := ce + 29) (sl' := sl + 222) (by first | exact Nat.le_add_right _ _ | exact Nat.add_le_add_left (by decide) _ | omega) (by first | exact Nat.le_add_right _ _ | exact Nat.add_le_add_left (by decide) _ | omega) ?_)
      exact WS_lv (lv := [(0, .ref q1), (1, .ref (A 0)), (2, .ref (A 179)), (3, .ref (A 517)), (4, .int (Int32.ofInt i))]) (List.forall_mem_cons.mpr ⟨(List.Mem.tail _ (List.Mem.head _)), (List.forall_mem_cons.mpr ⟨(List.Mem.tail _ (List.Mem.tail _ (List.Mem.head _))), (List.forall_mem_cons.mpr ⟨(List.Mem.tail _ (List.Mem.tail _ (List.Mem.tail _ (List.Mem.head _)))), (List.forall_mem_cons.mpr ⟨(List.Mem.tail _ (List.Mem.tail _ (List.Mem.tail _ (List.Mem.tail _ (List.Mem.head _))))), (List.forall_mem_cons.mpr ⟨(List.Mem.tail _ (List.Mem.tail _ (List.Mem.tail _ (List.Mem.tail _ (List.Mem.tail _ (List.Mem.head _)))))), (fun q h => absurd h List.not_mem_nil)⟩)⟩)⟩)⟩)⟩) (hk A _ Is27 JRLx_s27 JFEQ_s27 JREQ_s27 JSEQ_s27 jb31 JPTJ_s27 (by first | exact oq_f34933ba ws27_89 ws21_89 p1 b16.1 | omega) (by first | exact oq_d7ce4408 ws27_12 ws21_12 p2 | omega) (by first | exact oq_5bcdc35f ws27_74 ws27_0 ws21_74 ws21_0 p3 | omega) (by first | exact oq_5bcdc35f ws27_90 ws27_9 ws21_90 ws21_9 p4 | omega) (by first | exact oq_5bcdc35f ws27_98 ws27_20 ws21_98 ws21_20 p5 | omega) (by first | exact oq_5bcdc35f ws27_97 ws27_28 ws21_97 ws21_28 p6 | omega) (by first | exact oq_5bcdc35f ws27_99 ws27_32 ws21_99 ws21_32 p7 | omega) (by first | exact oq_5bcdc35f ws27_107 ws27_70 ws21_107 ws21_70 p8 | omega) (by first | exact oq_5bc06b03 ws27_83 ws27_12 ws21_83 p9 ws21_12 | omega))
theorem lc_6 (G : GX l s0 D tys a0 dT) (GR : RS0 s0) (SF : SF0 s0) (GT : TXs0 s0) (GW : TXw0 s0) {k : kx_T} (X : AX k 350 dT) (E : kL k = l ∧ kS0 k = s0 ∧ kD k = D ∧ kR k = room_1) {q1 L : Nat} {xs : Nat → Int32} (S : SX k q1 L xs) (hL : L ≤ 3072) (I : Bd s) (jR : RLx s) (jFEQ : FEQ s) (jREQ : REQ 39 234 28 s) (jSEQ : SEQ s) (jARJ : ARJ s) (jPTJ : PTJ s) (p1 : iI s 89 = 1) (p2 : iI s 12 ≤ 8) (p3 : iI s 0 = iI s 74) (p4 : iI s 9 = iI s 90) (p5 : iI s 20 = iI s 98) (p6 : iI s 28 = iI s 97) (p7 : iI s 32 = iI s 99) (p8 : iI s 70 = iI s 107) (p9 : iI s 12 = iI s 83) {i : Int} (hi : 0 ≤ i ∧ i + 6 ≤ (L : Int)) {ce sl : Nat} (hce : ce + 29 ≤ 601024) (hsl : sl + 222 ≤ 7293034) (hk : ∀ (A : Nat → Nat) (t : PS), Bd t → RLx t → FEQ t → REQ 39 234 28 t → SEQ t → ARJ t → PTJ t → iI t 89 = 1 → iI t 12 ≤ 8 → iI t 0 = iI t 74 → iI t 9 = iI t 90 → iI t 20 = iI t 98 → iI t 28 = iI t 97 → iI t 32 = iI t 99 → iI t 70 = iI t 107 → iI t 12 = iI t 83 → WS k 1866 [(0, .ref q1), (1, .ref (A 0)), (2, .ref (A 179)), (3, .ref (A 517)), (4, .int (Int32.ofInt i))] [] (Wd A dT t) (ce + 29) (sl + 222)) : WS k 475 [(0, .ref q1), (1, .ref (A 0)), (2, .ref (A 179)), (3, .ref (A 517)), (4, .int (Int32.ofInt i))] [] (Wd A dT s) ce sl := by
  have F : Fm [73] [9, 10, 11, 12, 13, 14, 163, 164] s s := fm_rf _ _ s
  have b1 := bi_0 I
  have b2 := bi_74 I
  have b3 := bi_9 I
  have b4 := bi_90 I
  have b5 := bi_20 I
  have b6 := bi_98 I
  have b7 := bi_28 I
  have b8 := bi_97 I
  have b9 := bi_32 I
  have b10 := bi_99 I
  have b11 := bi_70 I
  have b12 := bi_107 I
  have b13 := bi_12 I
  have b14 := bi_83 I
  have b15 := bi_12 I
  have b16 := bi_89 I
  refine z_aload_n X (x := A 0) rfl (List.Mem.tail _ (List.Mem.head _)) (z_aload_n X (x := q1) rfl (List.Mem.head _) (z_load X (x := i) rfl (List.Mem.tail _ (List.Mem.tail _ (List.Mem.tail _ (List.Mem.tail _ (List.Mem.head _))))) (z_const X rfl (z_add X rfl (z_sld X S hL rfl (show 0 ≤ (i + 1) ∧ (i + 1) < (L : Int) by first | exact sx_in hi (by decide) | omega) ?_)))))
  have sr17 : rng (sc xs (i + 1)) := sc_rng
  refine z_aload_n X (x := q1) rfl (List.Mem.head _) (z_load X (x := i) rfl (List.Mem.tail _ (List.Mem.tail _ (List.Mem.tail _ (List.Mem.tail _ (List.Mem.head _))))) (z_const X rfl (z_add X rfl (z_sld X S hL rfl (show 0 ≤ (i + 2) ∧ (i + 2) < (L : Int) by first | exact sx_in hi (by decide) | omega) ?_))))
  have sr18 : rng (sc xs (i + 2)) := sc_rng
  refine z_aload_n X (x := q1) rfl (List.Mem.head _) (z_load X (x := i) rfl (List.Mem.tail _ (List.Mem.tail _ (List.Mem.tail _ (List.Mem.tail _ (List.Mem.head _))))) (z_const X rfl (z_add X rfl (z_sld X S hL rfl (show 0 ≤ (i + 3) ∧ (i + 3) < (L : Int) by first | exact sx_in hi (by decide) | omega) ?_))))
  have sr19 : rng (sc xs (i + 3)) := sc_rng
  refine z_callL X (rm := rmN 318) (As := [.ref (A 0), .int (Int32.ofInt (sc xs (i + 1))), .int (Int32.ofInt (sc xs (i + 2))), .int (Int32.ofInt (sc xs (i + 3)))]) (st := []) rfl (by decide) rfl (by rw [E.1, E.2.1, E.2.2.1]; exact lw_span5 G I jARJ.2.2.1.1 jARJ.2.2.2.2.1 (by omega) (by omega) (by omega)) ⟨by rw [E.2.2.2]; exact (show 11 + 1 ≤ 2048 by decide), by rw [E.2.2.2]; exact (show 8 + (5 + 11) + 216 ≤ 84000 by decide), by rw [E.2.2.2]; exact (show ce + 3 ≤ 601024 by first | exact rmo_1 hce (by decide) | exact rmo_2 hce (by decide) | omega), by rw [E.2.2.2]; exact (show sl + 18 ≤ 7293034 by first | exact rmo_1 hsl (by decide) | exact rmo_2 hsl (by decide) | omega)⟩ (Nat.le_of_ble_eq_true rfl) (fun vv A s20 hA2 hq => ?_) (fun ee A s20 hA2 hq => ?_)
  rotate_left
  · obtain ⟨Is20, Fs20, JTWJ_s20, e21, hv, hrs20, hps20⟩ := hq; cases hv
  obtain ⟨Is20, Fs20, JTWJ_s20, e21, hv, hrs20, hps20⟩ := hq
  cases hv
  rw [← hA2 0 (by decide)]
  rw [← hA2 179 (by decide)]
  rw [← hA2 517 (by decide)]
  have JRLx_s20 : RLx s20 := RLx_fm Fs20 (by decide) jR
  have JFEQ_s20 : FEQ s20 := FEQ_fm Fs20 (by decide) jFEQ
  have JREQ_s20 : REQ 39 234 28 s20 := REQ_fm Fs20 (by decide) jREQ
  have JSEQ_s20 : SEQ s20 := SEQ_fm Fs20 (by decide) jSEQ
  have JPTJ_s20 : PTJ s20 := PTJ_fm Fs20 (by decide +kernel) jPTJ
  have JWQJ_s20 : WQJ s20 := WQJ_fm Fs20 (by decide +kernel) jARJ.1
  have JLIJ_s20 : LIJ s20 := LIJ_fm Fs20 (by decide +kernel) jARJ.2.1
  have JNZJ_s20 : NZJ s20 := NZJ_fm Fs20 (by decide) jARJ.2.2.2.1
  have JAIR_s20 : AIR s20 := AIR_fm Fs20 (by decide +kernel) jARJ.2.2.2.2.2.1
  have JCPL_s20 : CPL s20 := CPL_fm Fs20 (by decide +kernel) jARJ.2.2.2.2.2.2.1
  have JRLJ_s20 : RLJ s20 := RLJ_fm Fs20 (by decide +kernel) jARJ.2.2.2.2.2.2.2
  have ws20_0 : iI s20 0 = iI s 0 := fm_iq Fs20 rfl
  have ws20_74 : iI s20 74 = iI s 74 := fm_iq Fs20 rfl
  have ws20_9 : iI s20 9 = iI s 9 := fm_iq Fs20 rfl
  have ws20_90 : iI s20 90 = iI s 90 := fm_iq Fs20 rfl
  have ws20_20 : iI s20 20 = iI s 20 := fm_iq Fs20 rfl
  have ws20_98 : iI s20 98 = iI s 98 := fm_iq Fs20 rfl
  have ws20_28 : iI s20 28 = iI s 28 := fm_iq Fs20 rfl
  have ws20_97 : iI s20 97 = iI s 97 := fm_iq Fs20 rfl
  have ws20_32 : iI s20 32 = iI s 32 := fm_iq Fs20 rfl
  have ws20_99 : iI s20 99 = iI s 99 := fm_iq Fs20 rfl
  have ws20_70 : iI s20 70 = iI s 70 := fm_iq Fs20 rfl
  have ws20_107 : iI s20 107 = iI s 107 := fm_iq Fs20 rfl
  have ws20_12 : iI s20 12 = iI s 12 := fm_iq Fs20 rfl
  have ws20_83 : iI s20 83 = iI s 83 := fm_iq Fs20 rfl
  have ws20_12 : iI s20 12 = iI s 12 := fm_iq Fs20 rfl
  have ws20_89 : iI s20 89 = iI s 89 := fm_iq Fs20 rfl
  have wos20 : iO s20 = iO s := fm_o Fs20 (by decide)
  show WS k 497 [(0, .ref q1), (1, .ref (A 0)), (2, .ref (A 179)), (3, .ref (A 517)), (4, .int (Int32.ofInt i))] [.int (Int32.ofInt e21)] (Wd A dT s20) (ce + 3) (sl + 18)
  refine z_store X (lv' := [(5, .int (Int32.ofInt e21)), (0, .ref q1), (1, .ref (A 0)), (2, .ref (A 179)), (3, .ref (A 517)), (4, .int (Int32.ofInt i))]) rfl (by decide) (fun _ h => h) (z_aload_n X (x := A 179) rfl (List.Mem.tail _ (List.Mem.tail _ (List.Mem.tail _ (List.Mem.head _)))) (z_aload_n X (x := q1) rfl (List.Mem.tail _ (List.Mem.head _)) (z_load X (x := i) rfl (List.Mem.tail _ (List.Mem.tail _ (List.Mem.tail _ (List.Mem.tail _ (List.Mem.tail _ (List.Mem.head _)))))) (z_const X rfl (z_add X rfl (z_sld X S hL rfl (show 0 ≤ (i + 1) ∧ (i + 1) < (L : Int) by first | exact sx_in hi (by decide) | omega) ?_))))))
  have sr22 : rng (sc xs (i + 1)) := sc_rng
  refine z_aload_n X (x := q1) rfl (List.Mem.tail _ (List.Mem.head _)) (z_load X (x := i) rfl (List.Mem.tail _ (List.Mem.tail _ (List.Mem.tail _ (List.Mem.tail _ (List.Mem.tail _ (List.Mem.head _)))))) (z_const X rfl (z_add X rfl (z_sld X S hL rfl (show 0 ≤ (i + 2) ∧ (i + 2) < (L : Int) by first | exact sx_in hi (by decide) | omega) ?_))))
  have sr23 : rng (sc xs (i + 2)) := sc_rng
  refine z_aload_n X (x := q1) rfl (List.Mem.tail _ (List.Mem.head _)) (z_load X (x := i) rfl (List.Mem.tail _ (List.Mem.tail _ (List.Mem.tail _ (List.Mem.tail _ (List.Mem.tail _ (List.Mem.head _)))))) (z_const X rfl (z_add X rfl (z_sld X S hL rfl (show 0 ≤ (i + 3) ∧ (i + 3) < (L : Int) by first | exact sx_in hi (by decide) | omega) ?_))))
  have sr24 : rng (sc xs (i + 3)) := sc_rng
  refine z_callV X 179 (rm := rmN 219) (As := [.int (Int32.ofInt (sc xs (i + 1))), .int (Int32.ofInt (sc xs (i + 2))), .int (Int32.ofInt (sc xs (i + 3)))]) (st := []) rfl rfl (by decide) rfl (by rw [E.1, E.2.1, E.2.2.1]; exact k_span3 G Is20 (by first | exact ⟨sr22.1, sr22.2⟩ | omega) (by first | exact ⟨sr23.1, sr23.2⟩ | omega) (by first | exact ⟨sr24.1, sr24.2⟩ | omega)) ⟨by rw [E.2.2.2]; exact (show 7 + 1 ≤ 2048 from oq_4e6106eb), by rw [E.2.2.2]; exact (show 8 + (4 + 11) + 122 ≤ 84000 from oq_ebbf79c1), by rw [E.2.2.2]; exact (show (ce + 3) + 0 ≤ 601024 by first | (clear hps20; omega) | omega), by rw [E.2.2.2]; exact (show (sl + 18) + 0 ≤ 7293034 by first | (clear hps20; omega) | omega)⟩ (Nat.le_of_ble_eq_true rfl) (fun vv s25 hq => ?_) (fun ee s25 hq => ?_)
  rotate_left
  · obtain ⟨Is25, Fs25, hv, hps25⟩ := hq; cases hv
  obtain ⟨Is25, Fs25, hv, hps25⟩ := hq
  cases hv
  have JRLx_s25 : RLx s25 := RLx_fm Fs25 (by decide) JRLx_s20
  have JFEQ_s25 : FEQ s25 := FEQ_fm Fs25 (by decide) JFEQ_s20
  have JREQ_s25 : REQ 39 234 28 s25 := REQ_fm Fs25 (by decide) JREQ_s20
  have JSEQ_s25 : SEQ s25 := SEQ_fm Fs25 (by decide) JSEQ_s20
  have JPTJ_s25 : PTJ s25 := PTJ_fm Fs25 (by decide +kernel) JPTJ_s20
  have JWQJ_s25 : WQJ s25 := WQJ_fm Fs25 (by decide +kernel) JWQJ_s20
  have JLIJ_s25 : LIJ s25 := LIJ_fm Fs25 (by decide +kernel) JLIJ_s20
  have JNZJ_s25 : NZJ s25 := NZJ_fm Fs25 (by decide) JNZJ_s20
  have JAIR_s25 : AIR s25 := AIR_fm Fs25 (by decide +kernel) JAIR_s20
  have JCPL_s25 : CPL s25 := CPL_fm Fs25 (by decide +kernel) JCPL_s20
  have JRLJ_s25 : RLJ s25 := RLJ_fm Fs25 (by decide +kernel) JRLJ_s20
  have JTWJ_s25 : TWJ s25 := TWJ_fm Fs25 (by decide +kernel) JTWJ_s20
  have ws25_0 : iI s25 0 = iI s20 0 := fm_iq Fs25 rfl
  have ws25_74 : iI s25 74 = iI s20 74 := fm_iq Fs25 rfl
  have ws25_9 : iI s25 9 = iI s20 9 := fm_iq Fs25 rfl
  have ws25_90 : iI s25 90 = iI s20 90 := fm_iq Fs25 rfl
  have ws25_20 : iI s25 20 = iI s20 20 := fm_iq Fs25 rfl
  have ws25_98 : iI s25 98 = iI s20 98 := fm_iq Fs25 rfl
  have ws25_28 : iI s25 28 = iI s20 28 := fm_iq Fs25 rfl
  have ws25_97 : iI s25 97 = iI s20 97 := fm_iq Fs25 rfl
  have ws25_32 : iI s25 32 = iI s20 32 := fm_iq Fs25 rfl
  have ws25_99 : iI s25 99 = iI s20 99 := fm_iq Fs25 rfl
  have ws25_70 : iI s25 70 = iI s20 70 := fm_iq Fs25 rfl
  have ws25_107 : iI s25 107 = iI s20 107 := fm_iq Fs25 rfl
  have ws25_12 : iI s25 12 = iI s20 12 := fm_iq Fs25 rfl
  have ws25_83 : iI s25 83 = iI s20 83 := fm_iq Fs25 rfl
  have ws25_12 : iI s25 12 = iI s20 12 := fm_iq Fs25 rfl
  have ws25_89 : iI s25 89 = iI s20 89 := fm_iq Fs25 rfl
  have wos25 : iO s25 = iO s20 := fm_o Fs25 (by decide)
  show WS k 521 [(5, .int (Int32.ofInt e21)), (0, .ref q1), (1, .ref (A 0)), (2, .ref (A 179)), (3, .ref (A 517)), (4, .int (Int32.ofInt i))] [] (Wd A dT s25) (ce + 3) (sl + 18)
  rcases hps20 with cc | cc | cc
  ·
    rcases hps25 with mm | mm | mm
    ·
      have jb27 : ARJ s25 := ⟨JWQJ_s25, JLIJ_s25, mqj_span jARJ.2.2.1 cc.2.2.2.2.2.2.2.1 cc.2.2.2.2.2.2.2.2.2.2 cc.2.2.2.2.2.2.2.2.1 cc.2.2.2.2.2.2.2.2.2.1 (smr_fm Fs20 (by decide +kernel)) (sam_fm Fs20 (by decide)) (sam_fm Fs20 (by decide)) mm.2.2.2.2.2.2.2.1 mm.2.2.2.2.2.2.2.2 (sa4_fm Fs25 (by decide +kernel)) (smr_fm Fs25 (by decide +kernel)), JNZJ_s25, JTWJ_s25, JAIR_s25, JCPL_s25, JRLJ_s25⟩
      refine z_goto X (t := 1866) rfl rfl (w_widen (ce' := ce + 29) (sl' := sl + 222) (by first | exact Nat.le_add_right _ _ | exact Nat.add_le_add_left (by decide) _ | omega) (by first | exact Nat.le_add_right _ _ | exact Nat.add_le_add_left (by decide) _ | omega) ?_)
      exact WS_lv (lv := [(0, .ref q1), (1, .ref (A 0)), (2, .ref (A 179)), (3, .ref (A 517)), (4, .int (Int32.ofInt i))]) (List.forall_mem_cons.mpr ⟨(List.Mem.tail _ (List.Mem.head _)), (List.forall_mem_cons.mpr ⟨(List.Mem.tail _ (List.Mem.tail _ (List.Mem.head _))), (List.forall_mem_cons.mpr ⟨(List.Mem.tail _ (List.Mem.tail _ (List.Mem.tail _ (List.Mem.head _)))), (List.forall_mem_cons.mpr ⟨(List.Mem.tail _ (List.Mem.tail _ (List.Mem.tail _ (List.Mem.tail _ (List.Mem.head _))))), (List.forall_mem_cons.mpr ⟨(List.Mem.tail _ (List.Mem.tail _ (List.Mem.tail _ (List.Mem.tail _ (List.Mem.tail _ (List.Mem.head _)))))), (fun q h => absurd h List.not_mem_nil)⟩)⟩)⟩)⟩)⟩) (hk A _ Is25 JRLx_s25 JFEQ_s25 JREQ_s25 JSEQ_s25 jb27 JPTJ_s25 (by first | exact oq_f34933ba ws25_89 ws20_89 p1 b16.1 | omega) (by first | exact oq_d7ce4408 ws25_12 ws20_12 p2 | omega) (by first | exact oq_5bcdc35f ws25_74 ws25_0 ws20_74 ws20_0 p3 | omega) (by first | exact oq_5bcdc35f ws25_90 ws25_9 ws20_90 ws20_9 p4 | omega) (by first | exact oq_5bcdc35f ws25_98 ws25_20 ws20_98 ws20_20 p5 | omega) (by first | exact oq_5bcdc35f ws25_97 ws25_28 ws20_97 ws20_28 p6 | omega) (by first | exact oq_5bcdc35f ws25_99 ws25_32 ws20_99 ws20_32 p7 | omega) (by first | exact oq_5bcdc35f ws25_107 ws25_70 ws20_107 ws20_70 p8 | omega) (by first | exact oq_5bc06b03 ws25_83 ws25_12 ws20_83 p9 ws20_12 | omega))
    ·
      exfalso
      omega
    ·
      exfalso
      omega
  ·
    rcases hps25 with mm | mm | mm
    ·
      exfalso
      omega
    ·
      have jb28 : ARJ s25 := ⟨JWQJ_s25, JLIJ_s25, mqj_sam jARJ.2.2.1 (sa4_ts cc.2.2 (sa4_fm Fs25 (by decide +kernel))) (smr_ts (smr_fm Fs20 (by decide +kernel)) (smr_fm Fs25 (by decide +kernel))) (sam_ts (sam_fm Fs20 (by decide)) mm.2.2.1) (sam_ts (sam_fm Fs20 (by decide)) mm.2.2.2), JNZJ_s25, JTWJ_s25, JAIR_s25, JCPL_s25, JRLJ_s25⟩
      refine z_goto X (t := 1866) rfl rfl (w_widen (ce' := ce + 29) (sl' := sl + 222) (by first | exact Nat.le_add_right _ _ | exact Nat.add_le_add_left (by decide) _ | omega) (by first | exact Nat.le_add_right _ _ | exact Nat.add_le_add_left (by decide) _ | omega) ?_)
      exact WS_lv (lv := [(0, .ref q1), (1, .ref (A 0)), (2, .ref (A 179)), (3, .ref (A 517)), (4, .int (Int32.ofInt i))]) (List.forall_mem_cons.mpr ⟨(List.Mem.tail _ (List.Mem.head _)), (List.forall_mem_cons.mpr ⟨(List.Mem.tail _ (List.Mem.tail _ (List.Mem.head _))), (List.forall_mem_cons.mpr ⟨(List.Mem.tail _ (List.Mem.tail _ (List.Mem.tail _ (List.Mem.head _)))), (List.forall_mem_cons.mpr ⟨(List.Mem.tail _ (List.Mem.tail _ (List.Mem.tail _ (List.Mem.tail _ (List.Mem.head _))))), (List.forall_mem_cons.mpr ⟨(List.Mem.tail _ (List.Mem.tail _ (List.Mem.tail _ (List.Mem.tail _ (List.Mem.tail _ (List.Mem.head _)))))), (fun q h => absurd h List.not_mem_nil)⟩)⟩)⟩)⟩)⟩) (hk A _ Is25 JRLx_s25 JFEQ_s25 JREQ_s25 JSEQ_s25 jb28 JPTJ_s25 (by first | exact oq_f34933ba ws25_89 ws20_89 p1 b16.1 | omega) (by first | exact oq_d7ce4408 ws25_12 ws20_12 p2 | omega) (by first | exact oq_5bcdc35f ws25_74 ws25_0 ws20_74 ws20_0 p3 | omega) (by first | exact oq_5bcdc35f ws25_90 ws25_9 ws20_90 ws20_9 p4 | omega) (by first | exact oq_5bcdc35f ws25_98 ws25_20 ws20_98 ws20_20 p5 | omega) (by first | exact oq_5bcdc35f ws25_97 ws25_28 ws20_97 ws20_28 p6 | omega) (by first | exact oq_5bcdc35f ws25_99 ws25_32 ws20_99 ws20_32 p7 | omega) (by first | exact oq_5bcdc35f ws25_107 ws25_70 ws20_107 ws20_70 p8 | omega) (by first | exact oq_5bc06b03 ws25_83 ws25_12 ws20_83 p9 ws20_12 | omega))
    ·
      exfalso
      omega
  ·
    rcases hps25 with mm | mm | mm
    ·
      exfalso
      omega
    ·
      exfalso
      omega
    ·
      have jb29 : ARJ s25 := ⟨JWQJ_s25, JLIJ_s25, mqj_sam jARJ.2.2.1 (sa4_ts cc.2.2.2.2 (sa4_fm Fs25 (by decide +kernel))) (smr_ts (smr_fm Fs20 (by decide +kernel)) (smr_fm Fs25 (by decide +kernel))) (sam_ts (sam_fm Fs20 (by decide)) mm.2.2.2.2.1) (sam_ts (sam_fm Fs20 (by decide)) mm.2.2.2.2.2), JNZJ_s25, JTWJ_s25, JAIR_s25, JCPL_s25, JRLJ_s25⟩
      refine z_goto X (t := 1866) rfl rfl (w_widen (ce' := ce + 29) (sl' := sl + 222) (by first | exact Nat.le_add_right _ _ | exact Nat.add_le_add_left (by decide) _ | omega) (by first | exact Nat.le_add_right _ _ | exact Nat.add_le_add_left (by decide) _ | omega) ?_)
      exact WS_lv (lv := [(0, .ref q1), (1, .ref (A 0)), (2, .ref (A 179)), (3, .ref (A 517)), (4, .int (Int32.ofInt i))]) (List.forall_mem_cons.mpr ⟨(List.Mem.tail _ (List.Mem.head _)), (List.forall_mem_cons.mpr ⟨(List.Mem.tail _ (List.Mem.tail _ (List.Mem.head _))), (List.forall_mem_cons.mpr ⟨(List.Mem.tail _ (List.Mem.tail _ (List.Mem.tail _ (List.Mem.head _)))), (List.forall_mem_cons.mpr ⟨(List.Mem.tail _ (List.Mem.tail _ (List.Mem.tail _ (List.Mem.tail _ (List.Mem.head _))))), (List.forall_mem_cons.mpr ⟨(List.Mem.tail _ (List.Mem.tail _ (List.Mem.tail _ (List.Mem.tail _ (List.Mem.tail _ (List.Mem.head _)))))), (fun q h => absurd h List.not_mem_nil)⟩)⟩)⟩)⟩)⟩) (hk A _ Is25 JRLx_s25 JFEQ_s25 JREQ_s25 JSEQ_s25 jb29 JPTJ_s25 (by first | exact oq_f34933ba ws25_89 ws20_89 p1 b16.1 | omega) (by first | exact oq_d7ce4408 ws25_12 ws20_12 p2 | omega) (by first | exact oq_5bcdc35f ws25_74 ws25_0 ws20_74 ws20_0 p3 | omega) (by first | exact oq_5bcdc35f ws25_90 ws25_9 ws20_90 ws20_9 p4 | omega) (by first | exact oq_5bcdc35f ws25_98 ws25_20 ws20_98 ws20_20 p5 | omega) (by first | exact oq_5bcdc35f ws25_97 ws25_28 ws20_97 ws20_28 p6 | omega) (by first | exact oq_5bcdc35f ws25_99 ws25_32 ws20_99 ws20_32 p7 | omega) (by first | exact oq_5bcdc35f ws25_107 ws25_70 ws20_107 ws20_70 p8 | omega) (by first | exact oq_5bc06b03 ws25_83 ws25_12 ws20_83 p9 ws20_12 | omega))
theorem lc_7 (G : GX l s0 D tys a0 dT) (GR : RS0 s0) (SF : SF0 s0) (GT : TXs0 s0) (GW : TXw0 s0) {k : kx_T} (X : AX k 350 dT) (E : kL k = l ∧ kS0 k = s0 ∧ kD k = D ∧ kR k = room_1) {q1 L : Nat} {xs : Nat → Int32} (S : SX k q1 L xs) (hL : L ≤ 3072) (I : Bd s) (jR : RLx s) (jFEQ : FEQ s) (jREQ : REQ 39 234 28 s) (jSEQ : SEQ s) (jARJ : ARJ s) (jPTJ : PTJ s) (p1 : iI s 89 = 1) (p2 : iI s 12 ≤ 8) (p3 : iI s 0 = iI s 74) (p4 : iI s 9 = iI s 90) (p5 : iI s 20 = iI s 98) (p6 : iI s 28 = iI s 97) (p7 : iI s 32 = iI s 99) (p8 : iI s 70 = iI s 107) (p9 : iI s 12 = iI s 83) {i : Int} (hi : 0 ≤ i ∧ i + 6 ≤ (L : Int)) {ce sl : Nat} (hce : ce + 29 ≤ 601024) (hsl : sl + 222 ≤ 7293034) (hk : ∀ (A : Nat → Nat) (t : PS), Bd t → RLx t → FEQ t → REQ 39 234 28 t → SEQ t → ARJ t → PTJ t → iI t 89 = 1 → iI t 12 ≤ 8 → iI t 0 = iI t 74 → iI t 9 = iI t 90 → iI t 20 = iI t 98 → iI t 28 = iI t 97 → iI t 32 = iI t 99 → iI t 70 = iI t 107 → iI t 12 = iI t 83 → WS k 1866 [(0, .ref q1), (1, .ref (A 0)), (2, .ref (A 179)), (3, .ref (A 517)), (4, .int (Int32.ofInt i))] [] (Wd A dT t) (ce + 29) (sl + 222)) : WS k 524 [(0, .ref q1), (1, .ref (A 0)), (2, .ref (A 179)), (3, .ref (A 517)), (4, .int (Int32.ofInt i))] [] (Wd A dT s) ce sl := by
  have F : Fm [73] [1460] s s := fm_rf _ _ s
  have b1 := bi_0 I
  have b2 := bi_74 I
  have b3 := bi_9 I
  have b4 := bi_90 I
  have b5 := bi_20 I
  have b6 := bi_98 I
  have b7 := bi_28 I
  have b8 := bi_97 I
  have b9 := bi_32 I
  have b10 := bi_99 I
  have b11 := bi_70 I
  have b12 := bi_107 I
  have b13 := bi_12 I
  have b14 := bi_83 I
  have b15 := bi_12 I
  have b16 := bi_89 I
  refine z_aload_n X (x := A 0) rfl (List.Mem.tail _ (List.Mem.head _)) (z_aload_n X (x := q1) rfl (List.Mem.head _) (z_load X (x := i) rfl (List.Mem.tail _ (List.Mem.tail _ (List.Mem.tail _ (List.Mem.tail _ (List.Mem.head _))))) (z_const X rfl (z_add X rfl (z_sld X S hL rfl (show 0 ≤ (i + 1) ∧ (i + 1) < (L : Int) by first | exact sx_in hi (by decide) | omega) ?_)))))
  have sr17 : rng (sc xs (i + 1)) := sc_rng
  refine z_aload_n X (x := q1) rfl (List.Mem.head _) (z_load X (x := i) rfl (List.Mem.tail _ (List.Mem.tail _ (List.Mem.tail _ (List.Mem.tail _ (List.Mem.head _))))) (z_const X rfl (z_add X rfl (z_sld X S hL rfl (show 0 ≤ (i + 2) ∧ (i + 2) < (L : Int) by first | exact sx_in hi (by decide) | omega) ?_))))
  have sr18 : rng (sc xs (i + 2)) := sc_rng
  refine z_aload_n X (x := A 517) rfl (List.Mem.tail _ (List.Mem.tail _ (List.Mem.tail _ (List.Mem.head _)))) (z_callL X (rm := rmN 319) (As := [.ref (A 0), .int (Int32.ofInt (sc xs (i + 1))), .int (Int32.ofInt (sc xs (i + 2))), .ref (A 517)]) (st := []) rfl (by decide) rfl (by rw [E.1, E.2.1, E.2.2.1]; exact lw_most2 G I (by omega) (by omega)) ⟨by rw [E.2.2.2]; exact (show 9 + 1 ≤ 2048 by decide), by rw [E.2.2.2]; exact (show 8 + (5 + 11) + 166 ≤ 84000 by decide), by rw [E.2.2.2]; exact (show ce + 2 ≤ 601024 by first | exact rmo_1 hce (by decide) | exact rmo_2 hce (by decide) | omega), by rw [E.2.2.2]; exact (show sl + 12 ≤ 7293034 by first | exact rmo_1 hsl (by decide) | exact rmo_2 hsl (by decide) | omega)⟩ (Nat.le_of_ble_eq_true rfl) (fun vv A s19 hA2 hq => ?_) (fun ee A s19 hA2 hq => ?_))
  rotate_left
  · obtain ⟨Is19, Fs19, e20, hv, hrs19, hps19⟩ := hq; cases hv
  obtain ⟨Is19, Fs19, e20, hv, hrs19, hps19⟩ := hq
  cases hv
  rw [← hA2 0 (by decide)]
  rw [← hA2 179 (by decide)]
  rw [← hA2 517 (by decide)]
  have JRLx_s19 : RLx s19 := RLx_fm Fs19 (by decide) jR
  have JFEQ_s19 : FEQ s19 := FEQ_fm Fs19 (by decide) jFEQ
  have JREQ_s19 : REQ 39 234 28 s19 := REQ_fm Fs19 (by decide) jREQ
  have JSEQ_s19 : SEQ s19 := SEQ_fm Fs19 (by decide) jSEQ
  have JARJ_s19 : ARJ s19 := ARJ_fm Fs19 ⟨by decide +kernel, by decide +kernel, by decide +kernel, by decide +kernel, by decide +kernel, by decide +kernel, by decide +kernel, by decide +kernel⟩ jARJ
  have JPTJ_s19 : PTJ s19 := PTJ_fm Fs19 (by decide +kernel) jPTJ
  have ws19_0 : iI s19 0 = iI s 0 := fm_iq Fs19 rfl
  have ws19_74 : iI s19 74 = iI s 74 := fm_iq Fs19 rfl
  have ws19_9 : iI s19 9 = iI s 9 := fm_iq Fs19 rfl
  have ws19_90 : iI s19 90 = iI s 90 := fm_iq Fs19 rfl
  have ws19_20 : iI s19 20 = iI s 20 := fm_iq Fs19 rfl
  have ws19_98 : iI s19 98 = iI s 98 := fm_iq Fs19 rfl
  have ws19_28 : iI s19 28 = iI s 28 := fm_iq Fs19 rfl
  have ws19_97 : iI s19 97 = iI s 97 := fm_iq Fs19 rfl
  have ws19_32 : iI s19 32 = iI s 32 := fm_iq Fs19 rfl
  have ws19_99 : iI s19 99 = iI s 99 := fm_iq Fs19 rfl
  have ws19_70 : iI s19 70 = iI s 70 := fm_iq Fs19 rfl
  have ws19_107 : iI s19 107 = iI s 107 := fm_iq Fs19 rfl
  have ws19_12 : iI s19 12 = iI s 12 := fm_iq Fs19 rfl
  have ws19_83 : iI s19 83 = iI s 83 := fm_iq Fs19 rfl
  have ws19_12 : iI s19 12 = iI s 12 := fm_iq Fs19 rfl
  have ws19_89 : iI s19 89 = iI s 89 := fm_iq Fs19 rfl
  show WS k 541 [(0, .ref q1), (1, .ref (A 0)), (2, .ref (A 179)), (3, .ref (A 517)), (4, .int (Int32.ofInt i))] [.int (Int32.ofInt e20)] (Wd A dT s19) (ce + 2) (sl + 12)
  refine z_store X (lv' := [(5, .int (Int32.ofInt e20)), (0, .ref q1), (1, .ref (A 0)), (2, .ref (A 179)), (3, .ref (A 517)), (4, .int (Int32.ofInt i))]) rfl (by decide) (fun _ h => h) (z_aload_n X (x := A 179) rfl (List.Mem.tail _ (List.Mem.tail _ (List.Mem.tail _ (List.Mem.head _)))) (z_aload_n X (x := q1) rfl (List.Mem.tail _ (List.Mem.head _)) (z_load X (x := i) rfl (List.Mem.tail _ (List.Mem.tail _ (List.Mem.tail _ (List.Mem.tail _ (List.Mem.tail _ (List.Mem.head _)))))) (z_const X rfl (z_add X rfl (z_sld X S hL rfl (show 0 ≤ (i + 1) ∧ (i + 1) < (L : Int) by first | exact sx_in hi (by decide) | omega) ?_))))))
  have sr21 : rng (sc xs (i + 1)) := sc_rng
  refine z_aload_n X (x := q1) rfl (List.Mem.tail _ (List.Mem.head _)) (z_load X (x := i) rfl (List.Mem.tail _ (List.Mem.tail _ (List.Mem.tail _ (List.Mem.tail _ (List.Mem.tail _ (List.Mem.head _)))))) (z_const X rfl (z_add X rfl (z_sld X S hL rfl (show 0 ≤ (i + 2) ∧ (i + 2) < (L : Int) by first | exact sx_in hi (by decide) | omega) ?_))))
  have sr22 : rng (sc xs (i + 2)) := sc_rng
  refine z_callV X 179 (rm := rmN 221) (As := [.int (Int32.ofInt (sc xs (i + 1))), .int (Int32.ofInt (sc xs (i + 2)))]) (st := []) rfl rfl (by decide) rfl (by rw [E.1, E.2.1, E.2.2.1]; exact k_most2 G Is19 (by first | exact ⟨sr21.1, sr21.2⟩ | omega) (by first | exact ⟨sr22.1, sr22.2⟩ | omega)) ⟨by rw [E.2.2.2]; exact (show 8 + 1 ≤ 2048 from oq_5bf2829b), by rw [E.2.2.2]; exact (show 8 + (3 + 11) + 146 ≤ 84000 from oq_263907be), by rw [E.2.2.2]; exact (show (ce + 2) + 0 ≤ 601024 by first | (clear hps19; omega) | omega), by rw [E.2.2.2]; exact (show (sl + 12) + 0 ≤ 7293034 by first | (clear hps19; omega) | omega)⟩ (Nat.le_of_ble_eq_true rfl) (fun vv s23 hq => ?_) (fun ee s23 hq => ?_)
  rotate_left
  · obtain ⟨Is23, Fs23, e24, hv, hrs23, hps23⟩ := hq; cases hv
  obtain ⟨Is23, Fs23, e24, hv, hrs23, hps23⟩ := hq
  cases hv
  have JRLx_s23 : RLx s23 := RLx_fm Fs23 (by decide) JRLx_s19
  have JFEQ_s23 : FEQ s23 := FEQ_fm Fs23 (by decide) JFEQ_s19
  have JREQ_s23 : REQ 39 234 28 s23 := REQ_fm Fs23 (by decide) JREQ_s19
  have JSEQ_s23 : SEQ s23 := SEQ_fm Fs23 (by decide) JSEQ_s19
  have JARJ_s23 : ARJ s23 := ARJ_fm Fs23 ⟨by decide +kernel, by decide +kernel, by decide +kernel, by decide +kernel, by decide +kernel, by decide +kernel, by decide +kernel, by decide +kernel⟩ JARJ_s19
  have JPTJ_s23 : PTJ s23 := PTJ_fm Fs23 (by decide +kernel) JPTJ_s19
  have ws23_0 : iI s23 0 = iI s19 0 := fm_iq Fs23 rfl
  have ws23_74 : iI s23 74 = iI s19 74 := fm_iq Fs23 rfl
  have ws23_9 : iI s23 9 = iI s19 9 := fm_iq Fs23 rfl
  have ws23_90 : iI s23 90 = iI s19 90 := fm_iq Fs23 rfl
  have ws23_20 : iI s23 20 = iI s19 20 := fm_iq Fs23 rfl
  have ws23_98 : iI s23 98 = iI s19 98 := fm_iq Fs23 rfl
  have ws23_28 : iI s23 28 = iI s19 28 := fm_iq Fs23 rfl
  have ws23_97 : iI s23 97 = iI s19 97 := fm_iq Fs23 rfl
  have ws23_32 : iI s23 32 = iI s19 32 := fm_iq Fs23 rfl
  have ws23_99 : iI s23 99 = iI s19 99 := fm_iq Fs23 rfl
  have ws23_70 : iI s23 70 = iI s19 70 := fm_iq Fs23 rfl
  have ws23_107 : iI s23 107 = iI s19 107 := fm_iq Fs23 rfl
  have ws23_12 : iI s23 12 = iI s19 12 := fm_iq Fs23 rfl
  have ws23_83 : iI s23 83 = iI s19 83 := fm_iq Fs23 rfl
  have ws23_12 : iI s23 12 = iI s19 12 := fm_iq Fs23 rfl
  have ws23_89 : iI s23 89 = iI s19 89 := fm_iq Fs23 rfl
  have wos23 : iO s23 = iO s19 := fm_o Fs23 (by decide)
  show WS k 559 [(5, .int (Int32.ofInt e20)), (0, .ref q1), (1, .ref (A 0)), (2, .ref (A 179)), (3, .ref (A 517)), (4, .int (Int32.ofInt i))] [.int (Int32.ofInt e24)] (Wd A dT s23) (ce + 2) (sl + 12)
  refine z_store X (lv' := [(6, .int (Int32.ofInt e24)), (5, .int (Int32.ofInt e20)), (0, .ref q1), (1, .ref (A 0)), (2, .ref (A 179)), (3, .ref (A 517)), (4, .int (Int32.ofInt i))]) rfl (by decide) (fun _ h => h) (z_goto X (t := 1866) rfl rfl (w_widen (ce' := ce + 29) (sl' := sl + 222) (by first | exact Nat.le_add_right _ _ | exact Nat.add_le_add_left (by decide) _ | omega) (by first | exact Nat.le_add_right _ _ | exact Nat.add_le_add_left (by decide) _ | omega) ?_))
  exact WS_lv (lv := [(0, .ref q1), (1, .ref (A 0)), (2, .ref (A 179)), (3, .ref (A 517)), (4, .int (Int32.ofInt i))]) (List.forall_mem_cons.mpr ⟨(List.Mem.tail _ (List.Mem.tail _ (List.Mem.head _))), (List.forall_mem_cons.mpr ⟨(List.Mem.tail _ (List.Mem.tail _ (List.Mem.tail _ (List.Mem.head _)))), (List.forall_mem_cons.mpr ⟨(List.Mem.tail _ (List.Mem.tail _ (List.Mem.tail _ (List.Mem.tail _ (List.Mem.head _))))), (List.forall_mem_cons.mpr ⟨(List.Mem.tail _ (List.Mem.tail _ (List.Mem.tail _ (List.Mem.tail _ (List.Mem.tail _ (List.Mem.head _)))))), (List.forall_mem_cons.mpr ⟨(List.Mem.tail _ (List.Mem.tail _ (List.Mem.tail _ (List.Mem.tail _ (List.Mem.tail _ (List.Mem.tail _ (List.Mem.head _))))))), (fun q h => absurd h List.not_mem_nil)⟩)⟩)⟩)⟩)⟩) (hk A _ Is23 JRLx_s23 JFEQ_s23 JREQ_s23 JSEQ_s23 JARJ_s23 JPTJ_s23 (by first | exact oq_f34933ba ws23_89 ws19_89 p1 b16.1 | omega) (by first | exact oq_d7ce4408 ws23_12 ws19_12 p2 | omega) (by first | exact oq_5bcdc35f ws23_74 ws23_0 ws19_74 ws19_0 p3 | omega) (by first | exact oq_5bcdc35f ws23_90 ws23_9 ws19_90 ws19_9 p4 | omega) (by first | exact oq_5bcdc35f ws23_98 ws23_20 ws19_98 ws19_20 p5 | omega) (by first | exact oq_5bcdc35f ws23_97 ws23_28 ws19_97 ws19_28 p6 | omega) (by first | exact oq_5bcdc35f ws23_99 ws23_32 ws19_99 ws19_32 p7 | omega) (by first | exact oq_5bcdc35f ws23_107 ws23_70 ws19_107 ws19_70 p8 | omega) (by first | exact oq_5bc06b03 ws23_83 ws23_12 ws19_83 p9 ws19_12 | omega))
theorem lc_8 (G : GX l s0 D tys a0 dT) (GR : RS0 s0) (SF : SF0 s0) (GT : TXs0 s0) (GW : TXw0 s0) {k : kx_T} (X : AX k 350 dT) (E : kL k = l ∧ kS0 k = s0 ∧ kD k = D ∧ kR k = room_1) {q1 L : Nat} {xs : Nat → Int32} (S : SX k q1 L xs) (hL : L ≤ 3072) (I : Bd s) (jR : RLx s) (jFEQ : FEQ s) (jREQ : REQ 39 234 28 s) (jSEQ : SEQ s) (jARJ : ARJ s) (jPTJ : PTJ s) (p1 : iI s 89 = 1) (p2 : iI s 12 ≤ 8) (p3 : iI s 0 = iI s 74) (p4 : iI s 9 = iI s 90) (p5 : iI s 20 = iI s 98) (p6 : iI s 28 = iI s 97) (p7 : iI s 32 = iI s 99) (p8 : iI s 70 = iI s 107) (p9 : iI s 12 = iI s 83) {i : Int} (hi : 0 ≤ i ∧ i + 6 ≤ (L : Int)) {ce sl : Nat} (hce : ce + 29 ≤ 601024) (hsl : sl + 222 ≤ 7293034) (hk : ∀ (A : Nat → Nat) (t : PS), Bd t → RLx t → FEQ t → REQ 39 234 28 t → SEQ t → ARJ t → PTJ t → iI t 89 = 1 → iI t 12 ≤ 8 → iI t 0 = iI t 74 → iI t 9 = iI t 90 → iI t 20 = iI t 98 → iI t 28 = iI t 97 → iI t 32 = iI t 99 → iI t 70 = iI t 107 → iI t 12 = iI t 83 → WS k 1866 [(0, .ref q1), (1, .ref (A 0)), (2, .ref (A 179)), (3, .ref (A 517)), (4, .int (Int32.ofInt i))] [] (Wd A dT t) (ce + 29) (sl + 222)) : WS k 564 [(0, .ref q1), (1, .ref (A 0)), (2, .ref (A 179)), (3, .ref (A 517)), (4, .int (Int32.ofInt i))] [] (Wd A dT s) ce sl := by
  have F : Fm [73] [21, 1022, 1023, 1460, 228] s s := fm_rf _ _ s
  have b1 := bi_0 I
  have b2 := bi_74 I
  have b3 := bi_9 I
  have b4 := bi_90 I
  have b5 := bi_20 I
  have b6 := bi_98 I
  have b7 := bi_28 I
  have b8 := bi_97 I
  have b9 := bi_32 I
  have b10 := bi_99 I
  have b11 := bi_70 I
  have b12 := bi_107 I
  have b13 := bi_12 I
  have b14 := bi_83 I
  have b15 := bi_12 I
  have b16 := bi_89 I
  refine z_aload_n X (x := A 0) rfl (List.Mem.tail _ (List.Mem.head _)) (z_aload_n X (x := q1) rfl (List.Mem.head _) (z_load X (x := i) rfl (List.Mem.tail _ (List.Mem.tail _ (List.Mem.tail _ (List.Mem.tail _ (List.Mem.head _))))) (z_const X rfl (z_add X rfl (z_sld X S hL rfl (show 0 ≤ (i + 1) ∧ (i + 1) < (L : Int) by first | exact sx_in hi (by decide) | omega) ?_)))))
  have sr17 : rng (sc xs (i + 1)) := sc_rng
  refine z_aload_n X (x := q1) rfl (List.Mem.head _) (z_load X (x := i) rfl (List.Mem.tail _ (List.Mem.tail _ (List.Mem.tail _ (List.Mem.tail _ (List.Mem.head _))))) (z_const X rfl (z_add X rfl (z_sld X S hL rfl (show 0 ≤ (i + 2) ∧ (i + 2) < (L : Int) by first | exact sx_in hi (by decide) | omega) ?_))))
  have sr18 : rng (sc xs (i + 2)) := sc_rng
  refine z_aload_n X (x := A 517) rfl (List.Mem.tail _ (List.Mem.tail _ (List.Mem.tail _ (List.Mem.head _)))) (z_callL X (rm := rmN 320) (As := [.ref (A 0), .int (Int32.ofInt (sc xs (i + 1))), .int (Int32.ofInt (sc xs (i + 2))), .ref (A 517)]) (st := []) rfl (by decide) rfl (by rw [E.1, E.2.1, E.2.2.1]; exact lw_assign6 G I jPTJ.1 (by omega) (by omega)) ⟨by rw [E.2.2.2]; exact (show 8 + 1 ≤ 2048 by decide), by rw [E.2.2.2]; exact (show 8 + (5 + 11) + 148 ≤ 84000 by decide), by rw [E.2.2.2]; exact (show ce + 2 ≤ 601024 by first | exact rmo_1 hce (by decide) | exact rmo_2 hce (by decide) | omega), by rw [E.2.2.2]; exact (show sl + 12 ≤ 7293034 by first | exact rmo_1 hsl (by decide) | exact rmo_2 hsl (by decide) | omega)⟩ (Nat.le_of_ble_eq_true rfl) (fun vv A s19 hA2 hq => ?_) (fun ee A s19 hA2 hq => ?_))
  rotate_left
  · obtain ⟨Is19, Fs19, JPMJ_s19, e20, hv, hrs19, hps19⟩ := hq; cases hv
  obtain ⟨Is19, Fs19, JPMJ_s19, e20, hv, hrs19, hps19⟩ := hq
  cases hv
  rw [← hA2 0 (by decide)]
  rw [← hA2 179 (by decide)]
  rw [← hA2 517 (by decide)]
  have JRLx_s19 : RLx s19 := RLx_fm Fs19 (by decide) jR
  have JFEQ_s19 : FEQ s19 := FEQ_fm Fs19 (by decide) jFEQ
  have JREQ_s19 : REQ 39 234 28 s19 := REQ_fm Fs19 (by decide) jREQ
  have JSEQ_s19 : SEQ s19 := SEQ_fm Fs19 (by decide) jSEQ
  have JARJ_s19 : ARJ s19 := ARJ_fm Fs19 ⟨by decide +kernel, by decide +kernel, by decide +kernel, by decide +kernel, by decide +kernel, by decide +kernel, by decide +kernel, by decide +kernel⟩ jARJ
  have JALJ_s19 : AEQ 24 229 8 s19 := ALJ_fm Fs19 (by decide) jPTJ.2.2.1
  have JMKJ_s19 : MKJ s19 := MKJ_fm Fs19 (by decide +kernel) jPTJ.2.2.2
  have ws19_0 : iI s19 0 = iI s 0 := fm_iq Fs19 rfl
  have ws19_74 : iI s19 74 = iI s 74 := fm_iq Fs19 rfl
  have ws19_9 : iI s19 9 = iI s 9 := fm_iq Fs19 rfl
  have ws19_90 : iI s19 90 = iI s 90 := fm_iq Fs19 rfl
  have ws19_20 : iI s19 20 = iI s 20 := fm_iq Fs19 rfl
  have ws19_98 : iI s19 98 = iI s 98 := fm_iq Fs19 rfl
  have ws19_28 : iI s19 28 = iI s 28 := fm_iq Fs19 rfl
  have ws19_97 : iI s19 97 = iI s 97 := fm_iq Fs19 rfl
  have ws19_32 : iI s19 32 = iI s 32 := fm_iq Fs19 rfl
  have ws19_99 : iI s19 99 = iI s 99 := fm_iq Fs19 rfl
  have ws19_70 : iI s19 70 = iI s 70 := fm_iq Fs19 rfl
  have ws19_107 : iI s19 107 = iI s 107 := fm_iq Fs19 rfl
  have ws19_12 : iI s19 12 = iI s 12 := fm_iq Fs19 rfl
  have ws19_83 : iI s19 83 = iI s 83 := fm_iq Fs19 rfl
  have ws19_12 : iI s19 12 = iI s 12 := fm_iq Fs19 rfl
  have ws19_89 : iI s19 89 = iI s 89 := fm_iq Fs19 rfl
  show WS k 581 [(0, .ref q1), (1, .ref (A 0)), (2, .ref (A 179)), (3, .ref (A 517)), (4, .int (Int32.ofInt i))] [.int (Int32.ofInt e20)] (Wd A dT s19) (ce + 2) (sl + 12)
  refine z_store X (lv' := [(5, .int (Int32.ofInt e20)), (0, .ref q1), (1, .ref (A 0)), (2, .ref (A 179)), (3, .ref (A 517)), (4, .int (Int32.ofInt i))]) rfl (by decide) (fun _ h => h) (z_aload_n X (x := A 179) rfl (List.Mem.tail _ (List.Mem.tail _ (List.Mem.tail _ (List.Mem.head _)))) (z_aload_n X (x := q1) rfl (List.Mem.tail _ (List.Mem.head _)) (z_load X (x := i) rfl (List.Mem.tail _ (List.Mem.tail _ (List.Mem.tail _ (List.Mem.tail _ (List.Mem.tail _ (List.Mem.head _)))))) (z_const X rfl (z_add X rfl (z_sld X S hL rfl (show 0 ≤ (i + 1) ∧ (i + 1) < (L : Int) by first | exact sx_in hi (by decide) | omega) ?_))))))
  have sr21 : rng (sc xs (i + 1)) := sc_rng
  refine z_aload_n X (x := q1) rfl (List.Mem.tail _ (List.Mem.head _)) (z_load X (x := i) rfl (List.Mem.tail _ (List.Mem.tail _ (List.Mem.tail _ (List.Mem.tail _ (List.Mem.tail _ (List.Mem.head _)))))) (z_const X rfl (z_add X rfl (z_sld X S hL rfl (show 0 ≤ (i + 2) ∧ (i + 2) < (L : Int) by first | exact sx_in hi (by decide) | omega) ?_))))
  have sr22 : rng (sc xs (i + 2)) := sc_rng
  refine z_callV X 179 (rm := rmN 234) (As := [.int (Int32.ofInt (sc xs (i + 1))), .int (Int32.ofInt (sc xs (i + 2)))]) (st := []) rfl rfl (by decide) rfl (by rw [E.1, E.2.1, E.2.2.1]; exact k_assign6 G Is19 (by first | exact ⟨sr21.1, sr21.2⟩ | omega) (by first | exact ⟨sr22.1, sr22.2⟩ | omega)) ⟨by rw [E.2.2.2]; exact (show 7 + 1 ≤ 2048 from oq_4e6106eb), by rw [E.2.2.2]; exact (show 8 + (4 + 11) + 122 ≤ 84000 from oq_ebbf79c1), by rw [E.2.2.2]; exact (show (ce + 2) + 0 ≤ 601024 by first | (clear hps19; omega) | omega), by rw [E.2.2.2]; exact (show (sl + 12) + 0 ≤ 7293034 by first | (clear hps19; omega) | omega)⟩ (Nat.le_of_ble_eq_true rfl) (fun vv s23 hq => ?_) (fun ee s23 hq => ?_)
  rotate_left
  · obtain ⟨Is23, Fs23, e24, hv, hrs23, hps23⟩ := hq; cases hv
  obtain ⟨Is23, Fs23, e24, hv, hrs23, hps23⟩ := hq
  cases hv
  have JRLx_s23 : RLx s23 := RLx_fm Fs23 (by decide) JRLx_s19
  have JFEQ_s23 : FEQ s23 := FEQ_fm Fs23 (by decide) JFEQ_s19
  have JREQ_s23 : REQ 39 234 28 s23 := REQ_fm Fs23 (by decide) JREQ_s19
  have JSEQ_s23 : SEQ s23 := SEQ_fm Fs23 (by decide) JSEQ_s19
  have JARJ_s23 : ARJ s23 := ARJ_fm Fs23 ⟨by decide +kernel, by decide +kernel, by decide +kernel, by decide +kernel, by decide +kernel, by decide +kernel, by decide +kernel, by decide +kernel⟩ JARJ_s19
  have JALJ_s23 : AEQ 24 229 8 s23 := ALJ_fm Fs23 (by decide) JALJ_s19
  have JMKJ_s23 : MKJ s23 := MKJ_fm Fs23 (by decide +kernel) JMKJ_s19
  have JPMJ_s23 : PMJ s23 := PMJ_fm Fs23 (by decide +kernel) JPMJ_s19
  have ws23_0 : iI s23 0 = iI s19 0 := fm_iq Fs23 rfl
  have ws23_74 : iI s23 74 = iI s19 74 := fm_iq Fs23 rfl
  have ws23_9 : iI s23 9 = iI s19 9 := fm_iq Fs23 rfl
  have ws23_90 : iI s23 90 = iI s19 90 := fm_iq Fs23 rfl
  have ws23_20 : iI s23 20 = iI s19 20 := fm_iq Fs23 rfl
  have ws23_98 : iI s23 98 = iI s19 98 := fm_iq Fs23 rfl
  have ws23_28 : iI s23 28 = iI s19 28 := fm_iq Fs23 rfl
  have ws23_97 : iI s23 97 = iI s19 97 := fm_iq Fs23 rfl
  have ws23_32 : iI s23 32 = iI s19 32 := fm_iq Fs23 rfl
  have ws23_99 : iI s23 99 = iI s19 99 := fm_iq Fs23 rfl
  have ws23_70 : iI s23 70 = iI s19 70 := fm_iq Fs23 rfl
  have ws23_107 : iI s23 107 = iI s19 107 := fm_iq Fs23 rfl
  have ws23_12 : iI s23 12 = iI s19 12 := fm_iq Fs23 rfl
  have ws23_83 : iI s23 83 = iI s19 83 := fm_iq Fs23 rfl
  have ws23_12 : iI s23 12 = iI s19 12 := fm_iq Fs23 rfl
  have ws23_89 : iI s23 89 = iI s19 89 := fm_iq Fs23 rfl
  have wos23 : iO s23 = iO s19 := fm_o Fs23 (by decide)
  show WS k 599 [(5, .int (Int32.ofInt e20)), (0, .ref q1), (1, .ref (A 0)), (2, .ref (A 179)), (3, .ref (A 517)), (4, .int (Int32.ofInt i))] [.int (Int32.ofInt e24)] (Wd A dT s23) (ce + 2) (sl + 12)
  rcases hps19 with cc | cc
  ·
    rcases hps23 with mm | mm
    ·
      have jb25 : PTJ s23 := ⟨JPMJ_s23, aeq_upd jPTJ.2.1 cc.2.2.2.2.2.2 (sam_fm Fs19 (by decide +kernel)) mm.2.2.2.2.2.2 (sam_fm Fs23 (by decide +kernel)), JALJ_s23, JMKJ_s23⟩
      have rq26 := aeq_at (i := (sc xs (i + 1))) jPTJ.2.1 (sam_fm Fs19 (by decide +kernel)) (by first | (clear hps23 hps19; omega) | (clear hps19; omega) | omega)
      refine z_store X (lv' := [(6, .int (Int32.ofInt e24)), (5, .int (Int32.ofInt e20)), (0, .ref q1), (1, .ref (A 0)), (2, .ref (A 179)), (3, .ref (A 517)), (4, .int (Int32.ofInt i))]) rfl (by decide) (fun _ h => h) (z_goto X (t := 1866) rfl rfl (w_widen (ce' := ce + 29) (sl' := sl + 222) (by first | exact Nat.le_add_right _ _ | exact Nat.add_le_add_left (by decide) _ | omega) (by first | exact Nat.le_add_right _ _ | exact Nat.add_le_add_left (by decide) _ | omega) ?_))
      exact WS_lv (lv := [(0, .ref q1), (1, .ref (A 0)), (2, .ref (A 179)), (3, .ref (A 517)), (4, .int (Int32.ofInt i))]) (List.forall_mem_cons.mpr ⟨(List.Mem.tail _ (List.Mem.tail _ (List.Mem.head _))), (List.forall_mem_cons.mpr ⟨(List.Mem.tail _ (List.Mem.tail _ (List.Mem.tail _ (List.Mem.head _)))), (List.forall_mem_cons.mpr ⟨(List.Mem.tail _ (List.Mem.tail _ (List.Mem.tail _ (List.Mem.tail _ (List.Mem.head _))))), (List.forall_mem_cons.mpr ⟨(List.Mem.tail _ (List.Mem.tail _ (List.Mem.tail _ (List.Mem.tail _ (List.Mem.tail _ (List.Mem.head _)))))), (List.forall_mem_cons.mpr ⟨(List.Mem.tail _ (List.Mem.tail _ (List.Mem.tail _ (List.Mem.tail _ (List.Mem.tail _ (List.Mem.tail _ (List.Mem.head _))))))), (fun q h => absurd h List.not_mem_nil)⟩)⟩)⟩)⟩)⟩) (hk A _ Is23 JRLx_s23 JFEQ_s23 JREQ_s23 JSEQ_s23 JARJ_s23 jb25 (by first | exact oq_f34933ba ws23_89 ws19_89 p1 b16.1 | omega) (by first | exact oq_d7ce4408 ws23_12 ws19_12 p2 | omega) (by first | exact oq_5bcdc35f ws23_74 ws23_0 ws19_74 ws19_0 p3 | omega) (by first | exact oq_5bcdc35f ws23_90 ws23_9 ws19_90 ws19_9 p4 | omega) (by first | exact oq_5bcdc35f ws23_98 ws23_20 ws19_98 ws19_20 p5 | omega) (by first | exact oq_5bcdc35f ws23_97 ws23_28 ws19_97 ws19_28 p6 | omega) (by first | exact oq_5bcdc35f ws23_99 ws23_32 ws19_99 ws19_32 p7 | omega) (by first | exact oq_5bcdc35f ws23_107 ws23_70 ws19_107 ws19_70 p8 | omega) (by first | exact oq_5bc06b03 ws23_83 ws23_12 ws19_83 p9 ws19_12 | omega))
    ·
      exfalso
      omega
  ·
    rcases hps23 with mm | mm
    ·
      exfalso
      omega
    ·
      have jb27 : PTJ s23 := ⟨JPMJ_s23, aeq_sam jPTJ.2.1 (sam_ts cc.2 (sam_fm Fs23 (by decide +kernel))) (sam_ts (sam_fm Fs19 (by decide +kernel)) mm.2), JALJ_s23, JMKJ_s23⟩
      refine z_store X (lv' := [(6, .int (Int32.ofInt e24)), (5, .int (Int32.ofInt e20)), (0, .ref q1), (1, .ref (A 0)), (2, .ref (A 179)), (3, .ref (A 517)), (4, .int (Int32.ofInt i))]) rfl (by decide) (fun _ h => h) (z_goto X (t := 1866) rfl rfl (w_widen (ce' := ce + 29) (sl' := sl + 222) (by first | exact Nat.le_add_right _ _ | exact Nat.add_le_add_left (by decide) _ | omega) (by first | exact Nat.le_add_right _ _ | exact Nat.add_le_add_left (by decide) _ | omega) ?_))
      exact WS_lv (lv := [(0, .ref q1), (1, .ref (A 0)), (2, .ref (A 179)), (3, .ref (A 517)), (4, .int (Int32.ofInt i))]) (List.forall_mem_cons.mpr ⟨(List.Mem.tail _ (List.Mem.tail _ (List.Mem.head _))), (List.forall_mem_cons.mpr ⟨(List.Mem.tail _ (List.Mem.tail _ (List.Mem.tail _ (List.Mem.head _)))), (List.forall_mem_cons.mpr ⟨(List.Mem.tail _ (List.Mem.tail _ (List.Mem.tail _ (List.Mem.tail _ (List.Mem.head _))))), (List.forall_mem_cons.mpr ⟨(List.Mem.tail _ (List.Mem.tail _ (List.Mem.tail _ (List.Mem.tail _ (List.Mem.tail _ (List.Mem.head _)))))), (List.forall_mem_cons.mpr ⟨(List.Mem.tail _ (List.Mem.tail _ (List.Mem.tail _ (List.Mem.tail _ (List.Mem.tail _ (List.Mem.tail _ (List.Mem.head _))))))), (fun q h => absurd h List.not_mem_nil)⟩)⟩)⟩)⟩)⟩) (hk A _ Is23 JRLx_s23 JFEQ_s23 JREQ_s23 JSEQ_s23 JARJ_s23 jb27 (by first | exact oq_f34933ba ws23_89 ws19_89 p1 b16.1 | omega) (by first | exact oq_d7ce4408 ws23_12 ws19_12 p2 | omega) (by first | exact oq_5bcdc35f ws23_74 ws23_0 ws19_74 ws19_0 p3 | omega) (by first | exact oq_5bcdc35f ws23_90 ws23_9 ws19_90 ws19_9 p4 | omega) (by first | exact oq_5bcdc35f ws23_98 ws23_20 ws19_98 ws19_20 p5 | omega) (by first | exact oq_5bcdc35f ws23_97 ws23_28 ws19_97 ws19_28 p6 | omega) (by first | exact oq_5bcdc35f ws23_99 ws23_32 ws19_99 ws19_32 p7 | omega) (by first | exact oq_5bcdc35f ws23_107 ws23_70 ws19_107 ws19_70 p8 | omega) (by first | exact oq_5bc06b03 ws23_83 ws23_12 ws19_83 p9 ws19_12 | omega))
theorem lc_9 (G : GX l s0 D tys a0 dT) (GR : RS0 s0) (SF : SF0 s0) (GT : TXs0 s0) (GW : TXw0 s0) {k : kx_T} (X : AX k 350 dT) (E : kL k = l ∧ kS0 k = s0 ∧ kD k = D ∧ kR k = room_1) {q1 L : Nat} {xs : Nat → Int32} (S : SX k q1 L xs) (hL : L ≤ 3072) (I : Bd s) (jR : RLx s) (jFEQ : FEQ s) (jREQ : REQ 39 234 28 s) (jSEQ : SEQ s) (jARJ : ARJ s) (jPTJ : PTJ s) (p1 : iI s 89 = 1) (p2 : iI s 12 ≤ 8) (p3 : iI s 0 = iI s 74) (p4 : iI s 9 = iI s 90) (p5 : iI s 20 = iI s 98) (p6 : iI s 28 = iI s 97) (p7 : iI s 32 = iI s 99) (p8 : iI s 70 = iI s 107) (p9 : iI s 12 = iI s 83) {i : Int} (hi : 0 ≤ i ∧ i + 6 ≤ (L : Int)) {ce sl : Nat} (hce : ce + 29 ≤ 601024) (hsl : sl + 222 ≤ 7293034) (hk : ∀ (A : Nat → Nat) (t : PS), Bd t → RLx t → FEQ t → REQ 39 234 28 t → SEQ t → ARJ t → PTJ t → iI t 89 = 1 → iI t 12 ≤ 8 → iI t 0 = iI t 74 → iI t 9 = iI t 90 → iI t 20 = iI t 98 → iI t 28 = iI t 97 → iI t 32 = iI t 99 → iI t 70 = iI t 107 → iI t 12 = iI t 83 → WS k 1866 [(0, .ref q1), (1, .ref (A 0)), (2, .ref (A 179)), (3, .ref (A 517)), (4, .int (Int32.ofInt i))] [] (Wd A dT t) (ce + 29) (sl + 222)) : WS k 604 [(0, .ref q1), (1, .ref (A 0)), (2, .ref (A 179)), (3, .ref (A 517)), (4, .int (Int32.ofInt i))] [] (Wd A dT s) ce sl := by
  have F : Fm [73] [21, 1022, 1023, 1460, 228] s s := fm_rf _ _ s
  have b1 := bi_0 I
  have b2 := bi_74 I
  have b3 := bi_9 I
  have b4 := bi_90 I
  have b5 := bi_20 I
  have b6 := bi_98 I
  have b7 := bi_28 I
  have b8 := bi_97 I
  have b9 := bi_32 I
  have b10 := bi_99 I
  have b11 := bi_70 I
  have b12 := bi_107 I
  have b13 := bi_12 I
  have b14 := bi_83 I
  have b15 := bi_12 I
  have b16 := bi_89 I
  refine z_aload_n X (x := A 0) rfl (List.Mem.tail _ (List.Mem.head _)) (z_aload_n X (x := q1) rfl (List.Mem.head _) (z_load X (x := i) rfl (List.Mem.tail _ (List.Mem.tail _ (List.Mem.tail _ (List.Mem.tail _ (List.Mem.head _))))) (z_const X rfl (z_add X rfl (z_sld X S hL rfl (show 0 ≤ (i + 1) ∧ (i + 1) < (L : Int) by first | exact sx_in hi (by decide) | omega) ?_)))))
  have sr17 : rng (sc xs (i + 1)) := sc_rng
  refine z_aload_n X (x := q1) rfl (List.Mem.head _) (z_load X (x := i) rfl (List.Mem.tail _ (List.Mem.tail _ (List.Mem.tail _ (List.Mem.tail _ (List.Mem.head _))))) (z_const X rfl (z_add X rfl (z_sld X S hL rfl (show 0 ≤ (i + 2) ∧ (i + 2) < (L : Int) by first | exact sx_in hi (by decide) | omega) ?_))))
  have sr18 : rng (sc xs (i + 2)) := sc_rng
  refine z_aload_n X (x := q1) rfl (List.Mem.head _) (z_load X (x := i) rfl (List.Mem.tail _ (List.Mem.tail _ (List.Mem.tail _ (List.Mem.tail _ (List.Mem.head _))))) (z_const X rfl (z_add X rfl (z_sld X S hL rfl (show 0 ≤ (i + 3) ∧ (i + 3) < (L : Int) by first | exact sx_in hi (by decide) | omega) ?_))))
  have sr19 : rng (sc xs (i + 3)) := sc_rng
  refine z_aload_n X (x := A 517) rfl (List.Mem.tail _ (List.Mem.tail _ (List.Mem.tail _ (List.Mem.head _)))) (z_callL X (rm := rmN 321) (As := [.ref (A 0), .int (Int32.ofInt (sc xs (i + 1))), .int (Int32.ofInt (sc xs (i + 2))), .int (Int32.ofInt (sc xs (i + 3))), .ref (A 517)]) (st := []) rfl (by decide) rfl (by rw [E.1, E.2.1, E.2.2.1]; exact lw_paint6 G I jPTJ.1 (by omega) (by omega) (by omega)) ⟨by rw [E.2.2.2]; exact (show 9 + 1 ≤ 2048 by decide), by rw [E.2.2.2]; exact (show 8 + (6 + 11) + 175 ≤ 84000 by decide), by rw [E.2.2.2]; exact (show ce + 4 ≤ 601024 by first | exact rmo_1 hce (by decide) | exact rmo_2 hce (by decide) | omega), by rw [E.2.2.2]; exact (show sl + 24 ≤ 7293034 by first | exact rmo_1 hsl (by decide) | exact rmo_2 hsl (by decide) | omega)⟩ (Nat.le_of_ble_eq_true rfl) (fun vv A s20 hA2 hq => ?_) (fun ee A s20 hA2 hq => ?_))
  rotate_left
  · obtain ⟨Is20, Fs20, JPMJ_s20, e21, hv, hrs20, hps20⟩ := hq; cases hv
  obtain ⟨Is20, Fs20, JPMJ_s20, e21, hv, hrs20, hps20⟩ := hq
  cases hv
  rw [← hA2 0 (by decide)]
  rw [← hA2 179 (by decide)]
  rw [← hA2 517 (by decide)]
  have JRLx_s20 : RLx s20 := RLx_fm Fs20 (by decide) jR
  have JFEQ_s20 : FEQ s20 := FEQ_fm Fs20 (by decide) jFEQ
  have JREQ_s20 : REQ 39 234 28 s20 := REQ_fm Fs20 (by decide) jREQ
  have JSEQ_s20 : SEQ s20 := SEQ_fm Fs20 (by decide) jSEQ
  have JARJ_s20 : ARJ s20 := ARJ_fm Fs20 ⟨by decide +kernel, by decide +kernel, by decide +kernel, by decide +kernel, by decide +kernel, by decide +kernel, by decide +kernel, by decide +kernel⟩ jARJ
  have JALJ_s20 : AEQ 24 229 8 s20 := ALJ_fm Fs20 (by decide) jPTJ.2.2.1
  have JMKJ_s20 : MKJ s20 := MKJ_fm Fs20 (by decide +kernel) jPTJ.2.2.2
  have ws20_0 : iI s20 0 = iI s 0 := fm_iq Fs20 rfl
  have ws20_74 : iI s20 74 = iI s 74 := fm_iq Fs20 rfl
  have ws20_9 : iI s20 9 = iI s 9 := fm_iq Fs20 rfl
  have ws20_90 : iI s20 90 = iI s 90 := fm_iq Fs20 rfl
  have ws20_20 : iI s20 20 = iI s 20 := fm_iq Fs20 rfl
  have ws20_98 : iI s20 98 = iI s 98 := fm_iq Fs20 rfl
  have ws20_28 : iI s20 28 = iI s 28 := fm_iq Fs20 rfl
  have ws20_97 : iI s20 97 = iI s 97 := fm_iq Fs20 rfl
  have ws20_32 : iI s20 32 = iI s 32 := fm_iq Fs20 rfl
  have ws20_99 : iI s20 99 = iI s 99 := fm_iq Fs20 rfl
  have ws20_70 : iI s20 70 = iI s 70 := fm_iq Fs20 rfl
  have ws20_107 : iI s20 107 = iI s 107 := fm_iq Fs20 rfl
  have ws20_12 : iI s20 12 = iI s 12 := fm_iq Fs20 rfl
  have ws20_83 : iI s20 83 = iI s 83 := fm_iq Fs20 rfl
  have ws20_12 : iI s20 12 = iI s 12 := fm_iq Fs20 rfl
  have ws20_89 : iI s20 89 = iI s 89 := fm_iq Fs20 rfl
  show WS k 627 [(0, .ref q1), (1, .ref (A 0)), (2, .ref (A 179)), (3, .ref (A 517)), (4, .int (Int32.ofInt i))] [.int (Int32.ofInt e21)] (Wd A dT s20) (ce + 4) (sl + 24)
  refine z_store X (lv' := [(5, .int (Int32.ofInt e21)), (0, .ref q1), (1, .ref (A 0)), (2, .ref (A 179)), (3, .ref (A 517)), (4, .int (Int32.ofInt i))]) rfl (by decide) (fun _ h => h) (z_aload_n X (x := A 179) rfl (List.Mem.tail _ (List.Mem.tail _ (List.Mem.tail _ (List.Mem.head _)))) (z_aload_n X (x := q1) rfl (List.Mem.tail _ (List.Mem.head _)) (z_load X (x := i) rfl (List.Mem.tail _ (List.Mem.tail _ (List.Mem.tail _ (List.Mem.tail _ (List.Mem.tail _ (List.Mem.head _)))))) (z_const X rfl (z_add X rfl (z_sld X S hL rfl (show 0 ≤ (i + 1) ∧ (i + 1) < (L : Int) by first | exact sx_in hi (by decide) | omega) ?_))))))
  have sr22 : rng (sc xs (i + 1)) := sc_rng
  refine z_aload_n X (x := q1) rfl (List.Mem.tail _ (List.Mem.head _)) (z_load X (x := i) rfl (List.Mem.tail _ (List.Mem.tail _ (List.Mem.tail _ (List.Mem.tail _ (List.Mem.tail _ (List.Mem.head _)))))) (z_const X rfl (z_add X rfl (z_sld X S hL rfl (show 0 ≤ (i + 2) ∧ (i + 2) < (L : Int) by first | exact sx_in hi (by decide) | omega) ?_))))
  have sr23 : rng (sc xs (i + 2)) := sc_rng
  refine z_aload_n X (x := q1) rfl (List.Mem.tail _ (List.Mem.head _)) (z_load X (x := i) rfl (List.Mem.tail _ (List.Mem.tail _ (List.Mem.tail _ (List.Mem.tail _ (List.Mem.tail _ (List.Mem.head _)))))) (z_const X rfl (z_add X rfl (z_sld X S hL rfl (show 0 ≤ (i + 3) ∧ (i + 3) < (L : Int) by first | exact sx_in hi (by decide) | omega) ?_))))
  have sr24 : rng (sc xs (i + 3)) := sc_rng
  refine z_callV X 179 (rm := rmN 235) (As := [.int (Int32.ofInt (sc xs (i + 1))), .int (Int32.ofInt (sc xs (i + 2))), .int (Int32.ofInt (sc xs (i + 3)))]) (st := []) rfl rfl (by decide) rfl (by rw [E.1, E.2.1, E.2.2.1]; exact k_paint6 G Is20 (by first | exact ⟨sr22.1, sr22.2⟩ | omega) (by first | exact ⟨sr23.1, sr23.2⟩ | omega) (by first | exact ⟨sr24.1, sr24.2⟩ | omega)) ⟨by rw [E.2.2.2]; exact (show 7 + 1 ≤ 2048 from oq_4e6106eb), by rw [E.2.2.2]; exact (show 8 + (6 + 11) + 122 ≤ 84000 from oq_380e4f97), by rw [E.2.2.2]; exact (show (ce + 4) + 0 ≤ 601024 by first | (clear hps20; omega) | omega), by rw [E.2.2.2]; exact (show (sl + 24) + 0 ≤ 7293034 by first | (clear hps20; omega) | omega)⟩ (Nat.le_of_ble_eq_true rfl) (fun vv s25 hq => ?_) (fun ee s25 hq => ?_)
  rotate_left
  · obtain ⟨Is25, Fs25, e26, hv, hrs25, hps25⟩ := hq; cases hv
  obtain ⟨Is25, Fs25, e26, hv, hrs25, hps25⟩ := hq
  cases hv
  have JRLx_s25 : RLx s25 := RLx_fm Fs25 (by decide) JRLx_s20
  have JFEQ_s25 : FEQ s25 := FEQ_fm Fs25 (by decide) JFEQ_s20
  have JREQ_s25 : REQ 39 234 28 s25 := REQ_fm Fs25 (by decide) JREQ_s20
  have JSEQ_s25 : SEQ s25 := SEQ_fm Fs25 (by decide) JSEQ_s20
  have JARJ_s25 : ARJ s25 := ARJ_fm Fs25 ⟨by decide +kernel, by decide +kernel, by decide +kernel, by decide +kernel, by decide +kernel, by decide +kernel, by decide +kernel, by decide +kernel⟩ JARJ_s20
  have JALJ_s25 : AEQ 24 229 8 s25 := ALJ_fm Fs25 (by decide) JALJ_s20
  have JMKJ_s25 : MKJ s25 := MKJ_fm Fs25 (by decide +kernel) JMKJ_s20
  have JPMJ_s25 : PMJ s25 := PMJ_fm Fs25 (by decide +kernel) JPMJ_s20
  have ws25_0 : iI s25 0 = iI s20 0 := fm_iq Fs25 rfl
  have ws25_74 : iI s25 74 = iI s20 74 := fm_iq Fs25 rfl
  have ws25_9 : iI s25 9 = iI s20 9 := fm_iq Fs25 rfl
  have ws25_90 : iI s25 90 = iI s20 90 := fm_iq Fs25 rfl
  have ws25_20 : iI s25 20 = iI s20 20 := fm_iq Fs25 rfl
  have ws25_98 : iI s25 98 = iI s20 98 := fm_iq Fs25 rfl
  have ws25_28 : iI s25 28 = iI s20 28 := fm_iq Fs25 rfl
  have ws25_97 : iI s25 97 = iI s20 97 := fm_iq Fs25 rfl
  have ws25_32 : iI s25 32 = iI s20 32 := fm_iq Fs25 rfl
  have ws25_99 : iI s25 99 = iI s20 99 := fm_iq Fs25 rfl
  have ws25_70 : iI s25 70 = iI s20 70 := fm_iq Fs25 rfl
  have ws25_107 : iI s25 107 = iI s20 107 := fm_iq Fs25 rfl
  have ws25_12 : iI s25 12 = iI s20 12 := fm_iq Fs25 rfl
  have ws25_83 : iI s25 83 = iI s20 83 := fm_iq Fs25 rfl
  have ws25_12 : iI s25 12 = iI s20 12 := fm_iq Fs25 rfl
  have ws25_89 : iI s25 89 = iI s20 89 := fm_iq Fs25 rfl
  have wos25 : iO s25 = iO s20 := fm_o Fs25 (by decide)
  show WS k 651 [(5, .int (Int32.ofInt e21)), (0, .ref q1), (1, .ref (A 0)), (2, .ref (A 179)), (3, .ref (A 517)), (4, .int (Int32.ofInt i))] [.int (Int32.ofInt e26)] (Wd A dT s25) (ce + 4) (sl + 24)
  rcases hps20 with cc | cc
  ·
    rcases hps25 with mm | mm
    ·
      have hAP := apj_pnq jPTJ.2.1 cc.2.2.2.2.2.2 mm.2.2 (sam_fm Fs20 (by decide +kernel)) (sam_fm Fs25 (by decide +kernel))
      have rq27 := hAP.1
      have jb28 : PTJ s25 := ⟨JPMJ_s25, hAP.2, JALJ_s25, JMKJ_s25⟩
      refine z_store X (lv' := [(6, .int (Int32.ofInt e26)), (5, .int (Int32.ofInt e21)), (0, .ref q1), (1, .ref (A 0)), (2, .ref (A 179)), (3, .ref (A 517)), (4, .int (Int32.ofInt i))]) rfl (by decide) (fun _ h => h) (z_goto X (t := 1866) rfl rfl (w_widen (ce' := ce + 29) (sl' := sl + 222) (by first | exact Nat.le_add_right _ _ | exact Nat.add_le_add_left (by decide) _ | omega) (by first | exact Nat.le_add_right _ _ | exact Nat.add_le_add_left (by decide) _ | omega) ?_))
      exact WS_lv (lv := [(0, .ref q1), (1, .ref (A 0)), (2, .ref (A 179)), (3, .ref (A 517)), (4, .int (Int32.ofInt i))]) (List.forall_mem_cons.mpr ⟨(List.Mem.tail _ (List.Mem.tail _ (List.Mem.head _))), (List.forall_mem_cons.mpr ⟨(List.Mem.tail _ (List.Mem.tail _ (List.Mem.tail _ (List.Mem.head _)))), (List.forall_mem_cons.mpr ⟨(List.Mem.tail _ (List.Mem.tail _ (List.Mem.tail _ (List.Mem.tail _ (List.Mem.head _))))), (List.forall_mem_cons.mpr ⟨(List.Mem.tail _ (List.Mem.tail _ (List.Mem.tail _ (List.Mem.tail _ (List.Mem.tail _ (List.Mem.head _)))))), (List.forall_mem_cons.mpr ⟨(List.Mem.tail _ (List.Mem.tail _ (List.Mem.tail _ (List.Mem.tail _ (List.Mem.tail _ (List.Mem.tail _ (List.Mem.head _))))))), (fun q h => absurd h List.not_mem_nil)⟩)⟩)⟩)⟩)⟩) (hk A _ Is25 JRLx_s25 JFEQ_s25 JREQ_s25 JSEQ_s25 JARJ_s25 jb28 (by first | exact oq_f34933ba ws25_89 ws20_89 p1 b16.1 | omega) (by first | exact oq_d7ce4408 ws25_12 ws20_12 p2 | omega) (by first | exact oq_5bcdc35f ws25_74 ws25_0 ws20_74 ws20_0 p3 | omega) (by first | exact oq_5bcdc35f ws25_90 ws25_9 ws20_90 ws20_9 p4 | omega) (by first | exact oq_5bcdc35f ws25_98 ws25_20 ws20_98 ws20_20 p5 | omega) (by first | exact oq_5bcdc35f ws25_97 ws25_28 ws20_97 ws20_28 p6 | omega) (by first | exact oq_5bcdc35f ws25_99 ws25_32 ws20_99 ws20_32 p7 | omega) (by first | exact oq_5bcdc35f ws25_107 ws25_70 ws20_107 ws20_70 p8 | omega) (by first | exact oq_5bc06b03 ws25_83 ws25_12 ws20_83 p9 ws20_12 | omega))
    ·
      exfalso
      omega
  ·
    rcases hps25 with mm | mm
    ·
      exfalso
      omega
    ·
      have jb29 : PTJ s25 := ⟨JPMJ_s25, aeq_sam jPTJ.2.1 (sam_ts cc.2 (sam_fm Fs25 (by decide +kernel))) (sam_ts (sam_fm Fs20 (by decide +kernel)) mm.2), JALJ_s25, JMKJ_s25⟩
      refine z_store X (lv' := [(6, .int (Int32.ofInt e26)), (5, .int (Int32.ofInt e21)), (0, .ref q1), (1, .ref (A 0)), (2, .ref (A 179)), (3, .ref (A 517)), (4, .int (Int32.ofInt i))]) rfl (by decide) (fun _ h => h) (z_goto X (t := 1866) rfl rfl (w_widen (ce' := ce + 29) (sl' := sl + 222) (by first | exact Nat.le_add_right _ _ | exact Nat.add_le_add_left (by decide) _ | omega) (by first | exact Nat.le_add_right _ _ | exact Nat.add_le_add_left (by decide) _ | omega) ?_))
      exact WS_lv (lv := [(0, .ref q1), (1, .ref (A 0)), (2, .ref (A 179)), (3, .ref (A 517)), (4, .int (Int32.ofInt i))]) (List.forall_mem_cons.mpr ⟨(List.Mem.tail _ (List.Mem.tail _ (List.Mem.head _))), (List.forall_mem_cons.mpr ⟨(List.Mem.tail _ (List.Mem.tail _ (List.Mem.tail _ (List.Mem.head _)))), (List.forall_mem_cons.mpr ⟨(List.Mem.tail _ (List.Mem.tail _ (List.Mem.tail _ (List.Mem.tail _ (List.Mem.head _))))), (List.forall_mem_cons.mpr ⟨(List.Mem.tail _ (List.Mem.tail _ (List.Mem.tail _ (List.Mem.tail _ (List.Mem.tail _ (List.Mem.head _)))))), (List.forall_mem_cons.mpr ⟨(List.Mem.tail _ (List.Mem.tail _ (List.Mem.tail _ (List.Mem.tail _ (List.Mem.tail _ (List.Mem.tail _ (List.Mem.head _))))))), (fun q h => absurd h List.not_mem_nil)⟩)⟩)⟩)⟩)⟩) (hk A _ Is25 JRLx_s25 JFEQ_s25 JREQ_s25 JSEQ_s25 JARJ_s25 jb29 (by first | exact oq_f34933ba ws25_89 ws20_89 p1 b16.1 | omega) (by first | exact oq_d7ce4408 ws25_12 ws20_12 p2 | omega) (by first | exact oq_5bcdc35f ws25_74 ws25_0 ws20_74 ws20_0 p3 | omega) (by first | exact oq_5bcdc35f ws25_90 ws25_9 ws20_90 ws20_9 p4 | omega) (by first | exact oq_5bcdc35f ws25_98 ws25_20 ws20_98 ws20_20 p5 | omega) (by first | exact oq_5bcdc35f ws25_97 ws25_28 ws20_97 ws20_28 p6 | omega) (by first | exact oq_5bcdc35f ws25_99 ws25_32 ws20_99 ws20_32 p7 | omega) (by first | exact oq_5bcdc35f ws25_107 ws25_70 ws20_107 ws20_70 p8 | omega) (by first | exact oq_5bc06b03 ws25_83 ws25_12 ws20_83 p9 ws20_12 | omega))
theorem lc_10 (G : GX l s0 D tys a0 dT) (GR : RS0 s0) (SF : SF0 s0) (GT : TXs0 s0) (GW : TXw0 s0) {k : kx_T} (X : AX k 350 dT) (E : kL k = l ∧ kS0 k = s0 ∧ kD k = D ∧ kR k = room_1) {q1 L : Nat} {xs : Nat → Int32} (S : SX k q1 L xs) (hL : L ≤ 3072) (I : Bd s) (jR : RLx s) (jFEQ : FEQ s) (jREQ : REQ 39 234 28 s) (jSEQ : SEQ s) (jARJ : ARJ s) (jPTJ : PTJ s) (p1 : iI s 89 = 1) (p2 : iI s 12 ≤ 8) (p3 : iI s 0 = iI s 74) (p4 : iI s 9 = iI s 90) (p5 : iI s 20 = iI s 98) (p6 : iI s 28 = iI s 97) (p7 : iI s 32 = iI s 99) (p8 : iI s 70 = iI s 107) (p9 : iI s 12 = iI s 83) {i : Int} (hi : 0 ≤ i ∧ i + 6 ≤ (L : Int)) {ce sl : Nat} (hce : ce + 29 ≤ 601024) (hsl : sl + 222 ≤ 7293034) (hk : ∀ (A : Nat → Nat) (t : PS), Bd t → RLx t → FEQ t → REQ 39 234 28 t → SEQ t → ARJ t → PTJ t → iI t 89 = 1 → iI t 12 ≤ 8 → iI t 0 = iI t 74 → iI t 9 = iI t 90 → iI t 20 = iI t 98 → iI t 28 = iI t 97 → iI t 32 = iI t 99 → iI t 70 = iI t 107 → iI t 12 = iI t 83 → WS k 1866 [(0, .ref q1), (1, .ref (A 0)), (2, .ref (A 179)), (3, .ref (A 517)), (4, .int (Int32.ofInt i))] [] (Wd A dT t) (ce + 29) (sl + 222)) : WS k 656 [(0, .ref q1), (1, .ref (A 0)), (2, .ref (A 179)), (3, .ref (A 517)), (4, .int (Int32.ofInt i))] [] (Wd A dT s) ce sl := by
  have F : Fm [73] [24, 1460, 229] s s := fm_rf _ _ s
  have b1 := bi_0 I
  have b2 := bi_74 I
  have b3 := bi_9 I
  have b4 := bi_90 I
  have b5 := bi_20 I
  have b6 := bi_98 I
  have b7 := bi_28 I
  have b8 := bi_97 I
  have b9 := bi_32 I
  have b10 := bi_99 I
  have b11 := bi_70 I
  have b12 := bi_107 I
  have b13 := bi_12 I
  have b14 := bi_83 I
  have b15 := bi_12 I
  have b16 := bi_89 I
  refine z_aload_n X (x := A 0) rfl (List.Mem.tail _ (List.Mem.head _)) (z_aload_n X (x := q1) rfl (List.Mem.head _) (z_load X (x := i) rfl (List.Mem.tail _ (List.Mem.tail _ (List.Mem.tail _ (List.Mem.tail _ (List.Mem.head _))))) (z_const X rfl (z_add X rfl (z_sld X S hL rfl (show 0 ≤ (i + 1) ∧ (i + 1) < (L : Int) by first | exact sx_in hi (by decide) | omega) ?_)))))
  have sr17 : rng (sc xs (i + 1)) := sc_rng
  refine z_aload_n X (x := q1) rfl (List.Mem.head _) (z_load X (x := i) rfl (List.Mem.tail _ (List.Mem.tail _ (List.Mem.tail _ (List.Mem.tail _ (List.Mem.head _))))) (z_const X rfl (z_add X rfl (z_sld X S hL rfl (show 0 ≤ (i + 2) ∧ (i + 2) < (L : Int) by first | exact sx_in hi (by decide) | omega) ?_))))
  have sr18 : rng (sc xs (i + 2)) := sc_rng
  refine z_aload_n X (x := A 517) rfl (List.Mem.tail _ (List.Mem.tail _ (List.Mem.tail _ (List.Mem.head _)))) (z_callL X (rm := rmN 322) (As := [.ref (A 0), .int (Int32.ofInt (sc xs (i + 1))), .int (Int32.ofInt (sc xs (i + 2))), .ref (A 517)]) (st := []) rfl (by decide) rfl (by rw [E.1, E.2.1, E.2.2.1]; exact lw_limit2 G I (by omega) (by omega)) ⟨by rw [E.2.2.2]; exact (show 9 + 1 ≤ 2048 by decide), by rw [E.2.2.2]; exact (show 8 + (5 + 11) + 167 ≤ 84000 by decide), by rw [E.2.2.2]; exact (show ce + 2 ≤ 601024 by first | exact rmo_1 hce (by decide) | exact rmo_2 hce (by decide) | omega), by rw [E.2.2.2]; exact (show sl + 12 ≤ 7293034 by first | exact rmo_1 hsl (by decide) | exact rmo_2 hsl (by decide) | omega)⟩ (Nat.le_of_ble_eq_true rfl) (fun vv A s19 hA2 hq => ?_) (fun ee A s19 hA2 hq => ?_))
  rotate_left
  · obtain ⟨Is19, Fs19, e20, hv, hrs19, hps19⟩ := hq; cases hv
  obtain ⟨Is19, Fs19, e20, hv, hrs19, hps19⟩ := hq
  cases hv
  rw [← hA2 0 (by decide)]
  rw [← hA2 179 (by decide)]
  rw [← hA2 517 (by decide)]
  have JRLx_s19 : RLx s19 := RLx_fm Fs19 (by decide) jR
  have JFEQ_s19 : FEQ s19 := FEQ_fm Fs19 (by decide) jFEQ
  have JREQ_s19 : REQ 39 234 28 s19 := REQ_fm Fs19 (by decide) jREQ
  have JSEQ_s19 : SEQ s19 := SEQ_fm Fs19 (by decide) jSEQ
  have JARJ_s19 : ARJ s19 := ARJ_fm Fs19 ⟨by decide +kernel, by decide +kernel, by decide +kernel, by decide +kernel, by decide +kernel, by decide +kernel, by decide +kernel, by decide +kernel⟩ jARJ
  have JPMJ_s19 : PMJ s19 := PMJ_fm Fs19 (by decide +kernel) jPTJ.1
  have JAPJ_s19 : AEQ 21 228 128 s19 := APJ_fm Fs19 (by decide) jPTJ.2.1
  have JMKJ_s19 : MKJ s19 := MKJ_fm Fs19 (by decide +kernel) jPTJ.2.2.2
  have ws19_0 : iI s19 0 = iI s 0 := fm_iq Fs19 rfl
  have ws19_74 : iI s19 74 = iI s 74 := fm_iq Fs19 rfl
  have ws19_9 : iI s19 9 = iI s 9 := fm_iq Fs19 rfl
  have ws19_90 : iI s19 90 = iI s 90 := fm_iq Fs19 rfl
  have ws19_20 : iI s19 20 = iI s 20 := fm_iq Fs19 rfl
  have ws19_98 : iI s19 98 = iI s 98 := fm_iq Fs19 rfl
  have ws19_28 : iI s19 28 = iI s 28 := fm_iq Fs19 rfl
  have ws19_97 : iI s19 97 = iI s 97 := fm_iq Fs19 rfl
  have ws19_32 : iI s19 32 = iI s 32 := fm_iq Fs19 rfl
  have ws19_99 : iI s19 99 = iI s 99 := fm_iq Fs19 rfl
  have ws19_70 : iI s19 70 = iI s 70 := fm_iq Fs19 rfl
  have ws19_107 : iI s19 107 = iI s 107 := fm_iq Fs19 rfl
  have ws19_12 : iI s19 12 = iI s 12 := fm_iq Fs19 rfl
  have ws19_83 : iI s19 83 = iI s 83 := fm_iq Fs19 rfl
  have ws19_12 : iI s19 12 = iI s 12 := fm_iq Fs19 rfl
  have ws19_89 : iI s19 89 = iI s 89 := fm_iq Fs19 rfl
  show WS k 673 [(0, .ref q1), (1, .ref (A 0)), (2, .ref (A 179)), (3, .ref (A 517)), (4, .int (Int32.ofInt i))] [.int (Int32.ofInt e20)] (Wd A dT s19) (ce + 2) (sl + 12)
  refine z_store X (lv' := [(5, .int (Int32.ofInt e20)), (0, .ref q1), (1, .ref (A 0)), (2, .ref (A 179)), (3, .ref (A 517)), (4, .int (Int32.ofInt i))]) rfl (by decide) (fun _ h => h) (z_aload_n X (x := A 179) rfl (List.Mem.tail _ (List.Mem.tail _ (List.Mem.tail _ (List.Mem.head _)))) (z_aload_n X (x := q1) rfl (List.Mem.tail _ (List.Mem.head _)) (z_load X (x := i) rfl (List.Mem.tail _ (List.Mem.tail _ (List.Mem.tail _ (List.Mem.tail _ (List.Mem.tail _ (List.Mem.head _)))))) (z_const X rfl (z_add X rfl (z_sld X S hL rfl (show 0 ≤ (i + 1) ∧ (i + 1) < (L : Int) by first | exact sx_in hi (by decide) | omega) ?_))))))
  have sr21 : rng (sc xs (i + 1)) := sc_rng
  refine z_aload_n X (x := q1) rfl (List.Mem.tail _ (List.Mem.head _)) (z_load X (x := i) rfl (List.Mem.tail _ (List.Mem.tail _ (List.Mem.tail _ (List.Mem.tail _ (List.Mem.tail _ (List.Mem.head _)))))) (z_const X rfl (z_add X rfl (z_sld X S hL rfl (show 0 ≤ (i + 2) ∧ (i + 2) < (L : Int) by first | exact sx_in hi (by decide) | omega) ?_))))
  have sr22 : rng (sc xs (i + 2)) := sc_rng
  refine z_callV X 179 (rm := rmN 236) (As := [.int (Int32.ofInt (sc xs (i + 1))), .int (Int32.ofInt (sc xs (i + 2)))]) (st := []) rfl rfl (by decide) rfl (by rw [E.1, E.2.1, E.2.2.1]; exact k_limit2 G Is19 (by first | exact ⟨sr21.1, sr21.2⟩ | omega) (by first | exact ⟨sr22.1, sr22.2⟩ | omega)) ⟨by rw [E.2.2.2]; exact (show 7 + 1 ≤ 2048 from oq_4e6106eb), by rw [E.2.2.2]; exact (show 8 + (4 + 11) + 122 ≤ 84000 from oq_ebbf79c1), by rw [E.2.2.2]; exact (show (ce + 2) + 0 ≤ 601024 by first | (clear hps19; omega) | omega), by rw [E.2.2.2]; exact (show (sl + 12) + 0 ≤ 7293034 by first | (clear hps19; omega) | omega)⟩ (Nat.le_of_ble_eq_true rfl) (fun vv s23 hq => ?_) (fun ee s23 hq => ?_)
  rotate_left
  · obtain ⟨Is23, Fs23, e24, hv, hrs23, hps23⟩ := hq; cases hv
  obtain ⟨Is23, Fs23, e24, hv, hrs23, hps23⟩ := hq
  cases hv
  have JRLx_s23 : RLx s23 := RLx_fm Fs23 (by decide) JRLx_s19
  have JFEQ_s23 : FEQ s23 := FEQ_fm Fs23 (by decide) JFEQ_s19
  have JREQ_s23 : REQ 39 234 28 s23 := REQ_fm Fs23 (by decide) JREQ_s19
  have JSEQ_s23 : SEQ s23 := SEQ_fm Fs23 (by decide) JSEQ_s19
  have JARJ_s23 : ARJ s23 := ARJ_fm Fs23 ⟨by decide +kernel, by decide +kernel, by decide +kernel, by decide +kernel, by decide +kernel, by decide +kernel, by decide +kernel, by decide +kernel⟩ JARJ_s19
  have JPMJ_s23 : PMJ s23 := PMJ_fm Fs23 (by decide +kernel) JPMJ_s19
  have JAPJ_s23 : AEQ 21 228 128 s23 := APJ_fm Fs23 (by decide) JAPJ_s19
  have JMKJ_s23 : MKJ s23 := MKJ_fm Fs23 (by decide +kernel) JMKJ_s19
  have ws23_0 : iI s23 0 = iI s19 0 := fm_iq Fs23 rfl
  have ws23_74 : iI s23 74 = iI s19 74 := fm_iq Fs23 rfl
  have ws23_9 : iI s23 9 = iI s19 9 := fm_iq Fs23 rfl
  have ws23_90 : iI s23 90 = iI s19 90 := fm_iq Fs23 rfl
  have ws23_20 : iI s23 20 = iI s19 20 := fm_iq Fs23 rfl
  have ws23_98 : iI s23 98 = iI s19 98 := fm_iq Fs23 rfl
  have ws23_28 : iI s23 28 = iI s19 28 := fm_iq Fs23 rfl
  have ws23_97 : iI s23 97 = iI s19 97 := fm_iq Fs23 rfl
  have ws23_32 : iI s23 32 = iI s19 32 := fm_iq Fs23 rfl
  have ws23_99 : iI s23 99 = iI s19 99 := fm_iq Fs23 rfl
  have ws23_70 : iI s23 70 = iI s19 70 := fm_iq Fs23 rfl
  have ws23_107 : iI s23 107 = iI s19 107 := fm_iq Fs23 rfl
  have ws23_12 : iI s23 12 = iI s19 12 := fm_iq Fs23 rfl
  have ws23_83 : iI s23 83 = iI s19 83 := fm_iq Fs23 rfl
  have ws23_12 : iI s23 12 = iI s19 12 := fm_iq Fs23 rfl
  have ws23_89 : iI s23 89 = iI s19 89 := fm_iq Fs23 rfl
  have wos23 : iO s23 = iO s19 := fm_o Fs23 (by decide)
  show WS k 691 [(5, .int (Int32.ofInt e20)), (0, .ref q1), (1, .ref (A 0)), (2, .ref (A 179)), (3, .ref (A 517)), (4, .int (Int32.ofInt i))] [.int (Int32.ofInt e24)] (Wd A dT s23) (ce + 2) (sl + 12)
  rcases hps19 with cc | cc
  ·
    rcases hps23 with mm | mm
    ·
      have jb25 : PTJ s23 := ⟨JPMJ_s23, JAPJ_s23, aeq_upd jPTJ.2.2.1 cc.2.2.2.2.2.2 (sam_fm Fs19 (by decide +kernel)) mm.2.2.2.2.2.2 (sam_fm Fs23 (by decide +kernel)), JMKJ_s23⟩
      refine z_store X (lv' := [(6, .int (Int32.ofInt e24)), (5, .int (Int32.ofInt e20)), (0, .ref q1), (1, .ref (A 0)), (2, .ref (A 179)), (3, .ref (A 517)), (4, .int (Int32.ofInt i))]) rfl (by decide) (fun _ h => h) (z_goto X (t := 1866) rfl rfl (w_widen (ce' := ce + 29) (sl' := sl + 222) (by first | exact Nat.le_add_right _ _ | exact Nat.add_le_add_left (by decide) _ | omega) (by first | exact Nat.le_add_right _ _ | exact Nat.add_le_add_left (by decide) _ | omega) ?_))
      exact WS_lv (lv := [(0, .ref q1), (1, .ref (A 0)), (2, .ref (A 179)), (3, .ref (A 517)), (4, .int (Int32.ofInt i))]) (List.forall_mem_cons.mpr ⟨(List.Mem.tail _ (List.Mem.tail _ (List.Mem.head _))), (List.forall_mem_cons.mpr ⟨(List.Mem.tail _ (List.Mem.tail _ (List.Mem.tail _ (List.Mem.head _)))), (List.forall_mem_cons.mpr ⟨(List.Mem.tail _ (List.Mem.tail _ (List.Mem.tail _ (List.Mem.tail _ (List.Mem.head _))))), (List.forall_mem_cons.mpr ⟨(List.Mem.tail _ (List.Mem.tail _ (List.Mem.tail _ (List.Mem.tail _ (List.Mem.tail _ (List.Mem.head _)))))), (List.forall_mem_cons.mpr ⟨(List.Mem.tail _ (List.Mem.tail _ (List.Mem.tail _ (List.Mem.tail _ (List.Mem.tail _ (List.Mem.tail _ (List.Mem.head _))))))), (fun q h => absurd h List.not_mem_nil)⟩)⟩)⟩)⟩)⟩) (hk A _ Is23 JRLx_s23 JFEQ_s23 JREQ_s23 JSEQ_s23 JARJ_s23 jb25 (by first | exact oq_f34933ba ws23_89 ws19_89 p1 b16.1 | omega) (by first | exact oq_d7ce4408 ws23_12 ws19_12 p2 | omega) (by first | exact oq_5bcdc35f ws23_74 ws23_0 ws19_74 ws19_0 p3 | omega) (by first | exact oq_5bcdc35f ws23_90 ws23_9 ws19_90 ws19_9 p4 | omega) (by first | exact oq_5bcdc35f ws23_98 ws23_20 ws19_98 ws19_20 p5 | omega) (by first | exact oq_5bcdc35f ws23_97 ws23_28 ws19_97 ws19_28 p6 | omega) (by first | exact oq_5bcdc35f ws23_99 ws23_32 ws19_99 ws19_32 p7 | omega) (by first | exact oq_5bcdc35f ws23_107 ws23_70 ws19_107 ws19_70 p8 | omega) (by first | exact oq_5bc06b03 ws23_83 ws23_12 ws19_83 p9 ws19_12 | omega))
    ·
      exfalso
      omega
  ·
    rcases hps23 with mm | mm
    ·
      exfalso
      omega
    ·
      have jb26 : PTJ s23 := ⟨JPMJ_s23, JAPJ_s23, aeq_sam jPTJ.2.2.1 (sam_ts cc.2.2 (sam_fm Fs23 (by decide +kernel))) (sam_ts (sam_fm Fs19 (by decide +kernel)) mm.2.2), JMKJ_s23⟩
      refine z_store X (lv' := [(6, .int (Int32.ofInt e24)), (5, .int (Int32.ofInt e20)), (0, .ref q1), (1, .ref (A 0)), (2, .ref (A 179)), (3, .ref (A 517)), (4, .int (Int32.ofInt i))]) rfl (by decide) (fun _ h => h) (z_goto X (t := 1866) rfl rfl (w_widen (ce' := ce + 29) (sl' := sl + 222) (by first | exact Nat.le_add_right _ _ | exact Nat.add_le_add_left (by decide) _ | omega) (by first | exact Nat.le_add_right _ _ | exact Nat.add_le_add_left (by decide) _ | omega) ?_))
      exact WS_lv (lv := [(0, .ref q1), (1, .ref (A 0)), (2, .ref (A 179)), (3, .ref (A 517)), (4, .int (Int32.ofInt i))]) (List.forall_mem_cons.mpr ⟨(List.Mem.tail _ (List.Mem.tail _ (List.Mem.head _))), (List.forall_mem_cons.mpr ⟨(List.Mem.tail _ (List.Mem.tail _ (List.Mem.tail _ (List.Mem.head _)))), (List.forall_mem_cons.mpr ⟨(List.Mem.tail _ (List.Mem.tail _ (List.Mem.tail _ (List.Mem.tail _ (List.Mem.head _))))), (List.forall_mem_cons.mpr ⟨(List.Mem.tail _ (List.Mem.tail _ (List.Mem.tail _ (List.Mem.tail _ (List.Mem.tail _ (List.Mem.head _)))))), (List.forall_mem_cons.mpr ⟨(List.Mem.tail _ (List.Mem.tail _ (List.Mem.tail _ (List.Mem.tail _ (List.Mem.tail _ (List.Mem.tail _ (List.Mem.head _))))))), (fun q h => absurd h List.not_mem_nil)⟩)⟩)⟩)⟩)⟩) (hk A _ Is23 JRLx_s23 JFEQ_s23 JREQ_s23 JSEQ_s23 JARJ_s23 jb26 (by first | exact oq_f34933ba ws23_89 ws19_89 p1 b16.1 | omega) (by first | exact oq_d7ce4408 ws23_12 ws19_12 p2 | omega) (by first | exact oq_5bcdc35f ws23_74 ws23_0 ws19_74 ws19_0 p3 | omega) (by first | exact oq_5bcdc35f ws23_90 ws23_9 ws19_90 ws19_9 p4 | omega) (by first | exact oq_5bcdc35f ws23_98 ws23_20 ws19_98 ws19_20 p5 | omega) (by first | exact oq_5bcdc35f ws23_97 ws23_28 ws19_97 ws19_28 p6 | omega) (by first | exact oq_5bcdc35f ws23_99 ws23_32 ws19_99 ws19_32 p7 | omega) (by first | exact oq_5bcdc35f ws23_107 ws23_70 ws19_107 ws19_70 p8 | omega) (by first | exact oq_5bc06b03 ws23_83 ws23_12 ws19_83 p9 ws19_12 | omega))
theorem lc_11 (G : GX l s0 D tys a0 dT) (GR : RS0 s0) (SF : SF0 s0) (GT : TXs0 s0) (GW : TXw0 s0) {k : kx_T} (X : AX k 350 dT) (E : kL k = l ∧ kS0 k = s0 ∧ kD k = D ∧ kR k = room_1) {q1 L : Nat} {xs : Nat → Int32} (S : SX k q1 L xs) (hL : L ≤ 3072) (I : Bd s) (jR : RLx s) (jFEQ : FEQ s) (jREQ : REQ 39 234 28 s) (jSEQ : SEQ s) (jARJ : ARJ s) (jPTJ : PTJ s) (p1 : iI s 89 = 1) (p2 : iI s 12 ≤ 8) (p3 : iI s 0 = iI s 74) (p4 : iI s 9 = iI s 90) (p5 : iI s 20 = iI s 98) (p6 : iI s 28 = iI s 97) (p7 : iI s 32 = iI s 99) (p8 : iI s 70 = iI s 107) (p9 : iI s 12 = iI s 83) {i : Int} (hi : 0 ≤ i ∧ i + 6 ≤ (L : Int)) {ce sl : Nat} (hce : ce + 29 ≤ 601024) (hsl : sl + 222 ≤ 7293034) (hk : ∀ (A : Nat → Nat) (t : PS), Bd t → RLx t → FEQ t → REQ 39 234 28 t → SEQ t → ARJ t → PTJ t → iI t 89 = 1 → iI t 12 ≤ 8 → iI t 0 = iI t 74 → iI t 9 = iI t 90 → iI t 20 = iI t 98 → iI t 28 = iI t 97 → iI t 32 = iI t 99 → iI t 70 = iI t 107 → iI t 12 = iI t 83 → WS k 1866 [(0, .ref q1), (1, .ref (A 0)), (2, .ref (A 179)), (3, .ref (A 517)), (4, .int (Int32.ofInt i))] [] (Wd A dT t) (ce + 29) (sl + 222)) : WS k 696 [(0, .ref q1), (1, .ref (A 0)), (2, .ref (A 179)), (3, .ref (A 517)), (4, .int (Int32.ofInt i))] [] (Wd A dT s) ce sl := by
  have F : Fm [22, 23, 73, 77, 75, 78, 79, 80, 81] [33, 26, 27, 28, 29, 30, 31, 32, 20, 1460, 202, 204, 205, 206, 207, 208, 209, 210, 211, 212, 213, 214, 215, 216, 217, 218, 219, 220, 221, 222, 223, 224, 225, 226, 227, 203, 161, 230] s s := fm_rf _ _ s
  have b1 := bi_0 I
  have b2 := bi_74 I
  have b3 := bi_9 I
  have b4 := bi_90 I
  have b5 := bi_20 I
  have b6 := bi_98 I
  have b7 := bi_28 I
  have b8 := bi_97 I
  have b9 := bi_32 I
  have b10 := bi_99 I
  have b11 := bi_70 I
  have b12 := bi_107 I
  have b13 := bi_12 I
  have b14 := bi_83 I
  have b15 := bi_12 I
  have b16 := bi_89 I
  refine z_aload_n X (x := A 0) rfl (List.Mem.tail _ (List.Mem.head _)) (z_aload_n X (x := q1) rfl (List.Mem.head _) (z_load X (x := i) rfl (List.Mem.tail _ (List.Mem.tail _ (List.Mem.tail _ (List.Mem.tail _ (List.Mem.head _))))) (z_const X rfl (z_add X rfl (z_sld X S hL rfl (show 0 ≤ (i + 1) ∧ (i + 1) < (L : Int) by first | exact sx_in hi (by decide) | omega) ?_)))))
  have sr17 : rng (sc xs (i + 1)) := sc_rng
  refine z_aload_n X (x := q1) rfl (List.Mem.head _) (z_load X (x := i) rfl (List.Mem.tail _ (List.Mem.tail _ (List.Mem.tail _ (List.Mem.tail _ (List.Mem.head _))))) (z_const X rfl (z_add X rfl (z_sld X S hL rfl (show 0 ≤ (i + 2) ∧ (i + 2) < (L : Int) by first | exact sx_in hi (by decide) | omega) ?_))))
  have sr18 : rng (sc xs (i + 2)) := sc_rng
  refine z_aload_n X (x := q1) rfl (List.Mem.head _) (z_load X (x := i) rfl (List.Mem.tail _ (List.Mem.tail _ (List.Mem.tail _ (List.Mem.tail _ (List.Mem.head _))))) (z_const X rfl (z_add X rfl (z_sld X S hL rfl (show 0 ≤ (i + 3) ∧ (i + 3) < (L : Int) by first | exact sx_in hi (by decide) | omega) ?_))))
  have sr19 : rng (sc xs (i + 3)) := sc_rng
  refine z_aload_n X (x := A 517) rfl (List.Mem.tail _ (List.Mem.tail _ (List.Mem.tail _ (List.Mem.head _)))) (z_callL X (rm := rmN 323) (As := [.ref (A 0), .int (Int32.ofInt (sc xs (i + 1))), .int (Int32.ofInt (sc xs (i + 2))), .int (Int32.ofInt (sc xs (i + 3))), .ref (A 517)]) (st := []) rfl (by decide) rfl (by rw [E.1, E.2.1, E.2.2.1]; exact lw_hears G I (by omega) (by omega) (by omega)) ⟨by rw [E.2.2.2]; exact (show 11 + 1 ≤ 2048 by decide), by rw [E.2.2.2]; exact (show 8 + (6 + 11) + 229 ≤ 84000 by decide), by rw [E.2.2.2]; exact (show ce + 3 ≤ 601024 by first | exact rmo_1 hce (by decide) | exact rmo_2 hce (by decide) | omega), by rw [E.2.2.2]; exact (show sl + 18 ≤ 7293034 by first | exact rmo_1 hsl (by decide) | exact rmo_2 hsl (by decide) | omega)⟩ (Nat.le_of_ble_eq_true rfl) (fun vv A s20 hA2 hq => ?_) (fun ee A s20 hA2 hq => ?_))
  rotate_left
  · obtain ⟨Is20, Fs20, e21, hv, hrs20, hps20⟩ := hq; cases hv
  obtain ⟨Is20, Fs20, e21, hv, hrs20, hps20⟩ := hq
  cases hv
  rw [← hA2 0 (by decide)]
  rw [← hA2 179 (by decide)]
  rw [← hA2 517 (by decide)]
  have JRLx_s20 : RLx s20 := RLx_fm Fs20 (by decide) jR
  have JFEQ_s20 : FEQ s20 := FEQ_fm Fs20 (by decide) jFEQ
  have JREQ_s20 : REQ 39 234 28 s20 := REQ_fm Fs20 (by decide) jREQ
  have JSEQ_s20 : SEQ s20 := SEQ_fm Fs20 (by decide) jSEQ
  have JARJ_s20 : ARJ s20 := ARJ_fm Fs20 ⟨by decide +kernel, by decide +kernel, by decide +kernel, by decide +kernel, by decide +kernel, by decide +kernel, by decide +kernel, by decide +kernel⟩ jARJ
  have JPTJ_s20 : PTJ s20 := PTJ_fm Fs20 (by decide +kernel) jPTJ
  have ws20_0 : iI s20 0 = iI s 0 := fm_iq Fs20 rfl
  have ws20_74 : iI s20 74 = iI s 74 := fm_iq Fs20 rfl
  have ws20_9 : iI s20 9 = iI s 9 := fm_iq Fs20 rfl
  have ws20_90 : iI s20 90 = iI s 90 := fm_iq Fs20 rfl
  have ws20_20 : iI s20 20 = iI s 20 := fm_iq Fs20 rfl
  have ws20_98 : iI s20 98 = iI s 98 := fm_iq Fs20 rfl
  have ws20_28 : iI s20 28 = iI s 28 := fm_iq Fs20 rfl
  have ws20_97 : iI s20 97 = iI s 97 := fm_iq Fs20 rfl
  have ws20_32 : iI s20 32 = iI s 32 := fm_iq Fs20 rfl
  have ws20_99 : iI s20 99 = iI s 99 := fm_iq Fs20 rfl
  have ws20_70 : iI s20 70 = iI s 70 := fm_iq Fs20 rfl
  have ws20_107 : iI s20 107 = iI s 107 := fm_iq Fs20 rfl
  have ws20_12 : iI s20 12 = iI s 12 := fm_iq Fs20 rfl
  have ws20_83 : iI s20 83 = iI s 83 := fm_iq Fs20 rfl
  have ws20_12 : iI s20 12 = iI s 12 := fm_iq Fs20 rfl
  have ws20_89 : iI s20 89 = iI s 89 := fm_iq Fs20 rfl
  show WS k 719 [(0, .ref q1), (1, .ref (A 0)), (2, .ref (A 179)), (3, .ref (A 517)), (4, .int (Int32.ofInt i))] [.int (Int32.ofInt e21)] (Wd A dT s20) (ce + 3) (sl + 18)
  refine z_store X (lv' := [(5, .int (Int32.ofInt e21)), (0, .ref q1), (1, .ref (A 0)), (2, .ref (A 179)), (3, .ref (A 517)), (4, .int (Int32.ofInt i))]) rfl (by decide) (fun _ h => h) (z_aload_n X (x := A 179) rfl (List.Mem.tail _ (List.Mem.tail _ (List.Mem.tail _ (List.Mem.head _)))) (z_aload_n X (x := q1) rfl (List.Mem.tail _ (List.Mem.head _)) (z_load X (x := i) rfl (List.Mem.tail _ (List.Mem.tail _ (List.Mem.tail _ (List.Mem.tail _ (List.Mem.tail _ (List.Mem.head _)))))) (z_const X rfl (z_add X rfl (z_sld X S hL rfl (show 0 ≤ (i + 1) ∧ (i + 1) < (L : Int) by first | exact sx_in hi (by decide) | omega) ?_))))))
  have sr22 : rng (sc xs (i + 1)) := sc_rng
  refine z_aload_n X (x := q1) rfl (List.Mem.tail _ (List.Mem.head _)) (z_load X (x := i) rfl (List.Mem.tail _ (List.Mem.tail _ (List.Mem.tail _ (List.Mem.tail _ (List.Mem.tail _ (List.Mem.head _)))))) (z_const X rfl (z_add X rfl (z_sld X S hL rfl (show 0 ≤ (i + 2) ∧ (i + 2) < (L : Int) by first | exact sx_in hi (by decide) | omega) ?_))))
  have sr23 : rng (sc xs (i + 2)) := sc_rng
  refine z_aload_n X (x := q1) rfl (List.Mem.tail _ (List.Mem.head _)) (z_load X (x := i) rfl (List.Mem.tail _ (List.Mem.tail _ (List.Mem.tail _ (List.Mem.tail _ (List.Mem.tail _ (List.Mem.head _)))))) (z_const X rfl (z_add X rfl (z_sld X S hL rfl (show 0 ≤ (i + 3) ∧ (i + 3) < (L : Int) by first | exact sx_in hi (by decide) | omega) ?_))))
  have sr24 : rng (sc xs (i + 3)) := sc_rng
  refine z_callV X 179 (rm := rmN 237) (As := [.int (Int32.ofInt (sc xs (i + 1))), .int (Int32.ofInt (sc xs (i + 2))), .int (Int32.ofInt (sc xs (i + 3)))]) (st := []) rfl rfl (by decide) rfl (by rw [E.1, E.2.1, E.2.2.1]; exact k_hears G Is20 JRLx_s20 (by first | exact ⟨sr22.1, sr22.2⟩ | omega) (by first | exact ⟨sr23.1, sr23.2⟩ | omega) (by first | exact ⟨sr24.1, sr24.2⟩ | omega)) ⟨by rw [E.2.2.2]; exact (show 37 + 1 ≤ 2048 from oq_2596b3cb), by rw [E.2.2.2]; exact (show 8 + (5 + 11) + 1578 ≤ 84000 from oq_93887b04), by rw [E.2.2.2]; exact (show (ce + 3) + 0 ≤ 601024 by omega), by rw [E.2.2.2]; exact (show (sl + 18) + 0 ≤ 7293034 by omega)⟩ (Nat.le_of_ble_eq_true rfl) (fun vv s25 hq => ?_) (fun ee s25 hq => ?_)
  rotate_left
  · obtain ⟨Is25, Fs25, JRLx_s25, e26, hv, hrs25, hps25⟩ := hq; cases hv
  obtain ⟨Is25, Fs25, JRLx_s25, e26, hv, hrs25, hps25⟩ := hq
  cases hv
  have JRLx_s25 : RLx s25 := RLx_fm Fs25 (by decide) JRLx_s20
  have JFEQ_s25 : FEQ s25 := FEQ_fm Fs25 (by decide) JFEQ_s20
  have JREQ_s25 : REQ 39 234 28 s25 := REQ_fm Fs25 (by decide) JREQ_s20
  have JSEQ_s25 : SEQ s25 := SEQ_fm Fs25 (by decide) JSEQ_s20
  have JARJ_s25 : ARJ s25 := ARJ_fm Fs25 ⟨by decide +kernel, by decide +kernel, by decide +kernel, by decide +kernel, by decide +kernel, by decide +kernel, by decide +kernel, by decide +kernel⟩ JARJ_s20
  have JPTJ_s25 : PTJ s25 := PTJ_fm Fs25 (by decide +kernel) JPTJ_s20
  have ws25_0 : iI s25 0 = iI s20 0 := fm_iq Fs25 rfl
  have ws25_74 : iI s25 74 = iI s20 74 := fm_iq Fs25 rfl
  have ws25_9 : iI s25 9 = iI s20 9 := fm_iq Fs25 rfl
  have ws25_90 : iI s25 90 = iI s20 90 := fm_iq Fs25 rfl
  have ws25_20 : iI s25 20 = iI s20 20 := fm_iq Fs25 rfl
  have ws25_98 : iI s25 98 = iI s20 98 := fm_iq Fs25 rfl
  have ws25_28 : iI s25 28 = iI s20 28 := fm_iq Fs25 rfl
  have ws25_97 : iI s25 97 = iI s20 97 := fm_iq Fs25 rfl
  have ws25_32 : iI s25 32 = iI s20 32 := fm_iq Fs25 rfl
  have ws25_99 : iI s25 99 = iI s20 99 := fm_iq Fs25 rfl
  have ws25_70 : iI s25 70 = iI s20 70 := fm_iq Fs25 rfl
  have ws25_107 : iI s25 107 = iI s20 107 := fm_iq Fs25 rfl
  have ws25_12 : iI s25 12 = iI s20 12 := fm_iq Fs25 rfl
  have ws25_83 : iI s25 83 = iI s20 83 := fm_iq Fs25 rfl
  have ws25_12 : iI s25 12 = iI s20 12 := fm_iq Fs25 rfl
  have ws25_89 : iI s25 89 = iI s20 89 := fm_iq Fs25 rfl
  have wos25 : iO s25 = iO s20 := fm_o Fs25 (by decide)
  show WS k 743 [(5, .int (Int32.ofInt e21)), (0, .ref q1), (1, .ref (A 0)), (2, .ref (A 179)), (3, .ref (A 517)), (4, .int (Int32.ofInt i))] [.int (Int32.ofInt e26)] (Wd A dT s25) (ce + 3) (sl + 18)
  refine z_store X (lv' := [(6, .int (Int32.ofInt e26)), (5, .int (Int32.ofInt e21)), (0, .ref q1), (1, .ref (A 0)), (2, .ref (A 179)), (3, .ref (A 517)), (4, .int (Int32.ofInt i))]) rfl (by decide) (fun _ h => h) (z_goto X (t := 1866) rfl rfl (w_widen (ce' := ce + 29) (sl' := sl + 222) (by first | exact Nat.le_add_right _ _ | exact Nat.add_le_add_left (by decide) _ | omega) (by first | exact Nat.le_add_right _ _ | exact Nat.add_le_add_left (by decide) _ | omega) ?_))
  exact WS_lv (lv := [(0, .ref q1), (1, .ref (A 0)), (2, .ref (A 179)), (3, .ref (A 517)), (4, .int (Int32.ofInt i))]) (List.forall_mem_cons.mpr ⟨(List.Mem.tail _ (List.Mem.tail _ (List.Mem.head _))), (List.forall_mem_cons.mpr ⟨(List.Mem.tail _ (List.Mem.tail _ (List.Mem.tail _ (List.Mem.head _)))), (List.forall_mem_cons.mpr ⟨(List.Mem.tail _ (List.Mem.tail _ (List.Mem.tail _ (List.Mem.tail _ (List.Mem.head _))))), (List.forall_mem_cons.mpr ⟨(List.Mem.tail _ (List.Mem.tail _ (List.Mem.tail _ (List.Mem.tail _ (List.Mem.tail _ (List.Mem.head _)))))), (List.forall_mem_cons.mpr ⟨(List.Mem.tail _ (List.Mem.tail _ (List.Mem.tail _ (List.Mem.tail _ (List.Mem.tail _ (List.Mem.tail _ (List.Mem.head _))))))), (fun q h => absurd h List.not_mem_nil)⟩)⟩)⟩)⟩)⟩) (hk A _ Is25 JRLx_s25 JFEQ_s25 JREQ_s25 JSEQ_s25 JARJ_s25 JPTJ_s25 (by first | exact oq_f34933ba ws25_89 ws20_89 p1 b16.1 | omega) (by first | exact oq_d7ce4408 ws25_12 ws20_12 p2 | omega) (by first | exact oq_5bcdc35f ws25_74 ws25_0 ws20_74 ws20_0 p3 | omega) (by first | exact oq_5bcdc35f ws25_90 ws25_9 ws20_90 ws20_9 p4 | omega) (by first | exact oq_5bcdc35f ws25_98 ws25_20 ws20_98 ws20_20 p5 | omega) (by first | exact oq_5bcdc35f ws25_97 ws25_28 ws20_97 ws20_28 p6 | omega) (by first | exact oq_5bcdc35f ws25_99 ws25_32 ws20_99 ws20_32 p7 | omega) (by first | exact oq_5bcdc35f ws25_107 ws25_70 ws20_107 ws20_70 p8 | omega) (by first | exact oq_5bc06b03 ws25_83 ws25_12 ws20_83 p9 ws20_12 | omega))
theorem lc_12 (G : GX l s0 D tys a0 dT) (GR : RS0 s0) (SF : SF0 s0) (GT : TXs0 s0) (GW : TXw0 s0) {k : kx_T} (X : AX k 350 dT) (E : kL k = l ∧ kS0 k = s0 ∧ kD k = D ∧ kR k = room_1) {q1 L : Nat} {xs : Nat → Int32} (S : SX k q1 L xs) (hL : L ≤ 3072) (I : Bd s) (jR : RLx s) (jFEQ : FEQ s) (jREQ : REQ 39 234 28 s) (jSEQ : SEQ s) (jARJ : ARJ s) (jPTJ : PTJ s) (p1 : iI s 89 = 1) (p2 : iI s 12 ≤ 8) (p3 : iI s 0 = iI s 74) (p4 : iI s 9 = iI s 90) (p5 : iI s 20 = iI s 98) (p6 : iI s 28 = iI s 97) (p7 : iI s 32 = iI s 99) (p8 : iI s 70 = iI s 107) (p9 : iI s 12 = iI s 83) {i : Int} (hi : 0 ≤ i ∧ i + 6 ≤ (L : Int)) {ce sl : Nat} (hce : ce + 29 ≤ 601024) (hsl : sl + 222 ≤ 7293034) (hk : ∀ (A : Nat → Nat) (t : PS), Bd t → RLx t → FEQ t → REQ 39 234 28 t → SEQ t → ARJ t → PTJ t → iI t 89 = 1 → iI t 12 ≤ 8 → iI t 0 = iI t 74 → iI t 9 = iI t 90 → iI t 20 = iI t 98 → iI t 28 = iI t 97 → iI t 32 = iI t 99 → iI t 70 = iI t 107 → iI t 12 = iI t 83 → WS k 1866 [(0, .ref q1), (1, .ref (A 0)), (2, .ref (A 179)), (3, .ref (A 517)), (4, .int (Int32.ofInt i))] [] (Wd A dT t) (ce + 29) (sl + 222)) : WS k 748 [(0, .ref q1), (1, .ref (A 0)), (2, .ref (A 179)), (3, .ref (A 517)), (4, .int (Int32.ofInt i))] [] (Wd A dT s) ce sl := by
  have F : Fm [22, 23, 24, 73, 77, 75, 78, 79, 80, 81] [33, 26, 27, 28, 29, 30, 31, 32, 20, 1460, 202, 204, 205, 206, 207, 208, 209, 210, 211, 212, 213, 214, 215, 216, 217, 218, 219, 220, 221, 222, 223, 224, 225, 226, 227, 203, 161, 230] s s := fm_rf _ _ s
  have b1 := bi_0 I
  have b2 := bi_74 I
  have b3 := bi_9 I
  have b4 := bi_90 I
  have b5 := bi_20 I
  have b6 := bi_98 I
  have b7 := bi_28 I
  have b8 := bi_97 I
  have b9 := bi_32 I
  have b10 := bi_99 I
  have b11 := bi_70 I
  have b12 := bi_107 I
  have b13 := bi_12 I
  have b14 := bi_83 I
  have b15 := bi_12 I
  have b16 := bi_89 I
  refine z_aload_n X (x := A 0) rfl (List.Mem.tail _ (List.Mem.head _)) (z_aload_n X (x := q1) rfl (List.Mem.head _) (z_load X (x := i) rfl (List.Mem.tail _ (List.Mem.tail _ (List.Mem.tail _ (List.Mem.tail _ (List.Mem.head _))))) (z_const X rfl (z_add X rfl (z_sld X S hL rfl (show 0 ≤ (i + 1) ∧ (i + 1) < (L : Int) by first | exact sx_in hi (by decide) | omega) ?_)))))
  have sr17 : rng (sc xs (i + 1)) := sc_rng
  refine z_aload_n X (x := q1) rfl (List.Mem.head _) (z_load X (x := i) rfl (List.Mem.tail _ (List.Mem.tail _ (List.Mem.tail _ (List.Mem.tail _ (List.Mem.head _))))) (z_const X rfl (z_add X rfl (z_sld X S hL rfl (show 0 ≤ (i + 2) ∧ (i + 2) < (L : Int) by first | exact sx_in hi (by decide) | omega) ?_))))
  have sr18 : rng (sc xs (i + 2)) := sc_rng
  refine z_aload_n X (x := A 517) rfl (List.Mem.tail _ (List.Mem.tail _ (List.Mem.tail _ (List.Mem.head _)))) (z_callL X (rm := rmN 324) (As := [.ref (A 0), .int (Int32.ofInt (sc xs (i + 1))), .int (Int32.ofInt (sc xs (i + 2))), .ref (A 517)]) (st := []) rfl (by decide) rfl (by rw [E.1, E.2.1, E.2.2.1]; exact lw_peak G I (by omega) (by omega)) ⟨by rw [E.2.2.2]; exact (show 11 + 1 ≤ 2048 by decide), by rw [E.2.2.2]; exact (show 8 + (5 + 11) + 228 ≤ 84000 by decide), by rw [E.2.2.2]; exact (show ce + 2 ≤ 601024 by first | exact rmo_1 hce (by decide) | exact rmo_2 hce (by decide) | omega), by rw [E.2.2.2]; exact (show sl + 12 ≤ 7293034 by first | exact rmo_1 hsl (by decide) | exact rmo_2 hsl (by decide) | omega)⟩ (Nat.le_of_ble_eq_true rfl) (fun vv A s19 hA2 hq => ?_) (fun ee A s19 hA2 hq => ?_))
  rotate_left
  · obtain ⟨Is19, Fs19, e20, hv, hrs19, hps19⟩ := hq; cases hv
  obtain ⟨Is19, Fs19, e20, hv, hrs19, hps19⟩ := hq
  cases hv
  rw [← hA2 0 (by decide)]
  rw [← hA2 179 (by decide)]
  rw [← hA2 517 (by decide)]
  have JRLx_s19 : RLx s19 := RLx_fm Fs19 (by decide) jR
  have JFEQ_s19 : FEQ s19 := FEQ_fm Fs19 (by decide) jFEQ
  have JREQ_s19 : REQ 39 234 28 s19 := REQ_fm Fs19 (by decide) jREQ
  have JSEQ_s19 : SEQ s19 := SEQ_fm Fs19 (by decide) jSEQ
  have JARJ_s19 : ARJ s19 := ARJ_fm Fs19 ⟨by decide +kernel, by decide +kernel, by decide +kernel, by decide +kernel, by decide +kernel, by decide +kernel, by decide +kernel, by decide +kernel⟩ jARJ
  have JPTJ_s19 : PTJ s19 := PTJ_fm Fs19 (by decide +kernel) jPTJ
  have ws19_0 : iI s19 0 = iI s 0 := fm_iq Fs19 rfl
  have ws19_74 : iI s19 74 = iI s 74 := fm_iq Fs19 rfl
  have ws19_9 : iI s19 9 = iI s 9 := fm_iq Fs19 rfl
  have ws19_90 : iI s19 90 = iI s 90 := fm_iq Fs19 rfl
  have ws19_20 : iI s19 20 = iI s 20 := fm_iq Fs19 rfl
  have ws19_98 : iI s19 98 = iI s 98 := fm_iq Fs19 rfl
  have ws19_28 : iI s19 28 = iI s 28 := fm_iq Fs19 rfl
  have ws19_97 : iI s19 97 = iI s 97 := fm_iq Fs19 rfl
  have ws19_32 : iI s19 32 = iI s 32 := fm_iq Fs19 rfl
  have ws19_99 : iI s19 99 = iI s 99 := fm_iq Fs19 rfl
  have ws19_70 : iI s19 70 = iI s 70 := fm_iq Fs19 rfl
  have ws19_107 : iI s19 107 = iI s 107 := fm_iq Fs19 rfl
  have ws19_12 : iI s19 12 = iI s 12 := fm_iq Fs19 rfl
  have ws19_83 : iI s19 83 = iI s 83 := fm_iq Fs19 rfl
  have ws19_12 : iI s19 12 = iI s 12 := fm_iq Fs19 rfl
  have ws19_89 : iI s19 89 = iI s 89 := fm_iq Fs19 rfl
  show WS k 765 [(0, .ref q1), (1, .ref (A 0)), (2, .ref (A 179)), (3, .ref (A 517)), (4, .int (Int32.ofInt i))] [.int (Int32.ofInt e20)] (Wd A dT s19) (ce + 2) (sl + 12)
  refine z_store X (lv' := [(5, .int (Int32.ofInt e20)), (0, .ref q1), (1, .ref (A 0)), (2, .ref (A 179)), (3, .ref (A 517)), (4, .int (Int32.ofInt i))]) rfl (by decide) (fun _ h => h) (z_aload_n X (x := A 179) rfl (List.Mem.tail _ (List.Mem.tail _ (List.Mem.tail _ (List.Mem.head _)))) (z_aload_n X (x := q1) rfl (List.Mem.tail _ (List.Mem.head _)) (z_load X (x := i) rfl (List.Mem.tail _ (List.Mem.tail _ (List.Mem.tail _ (List.Mem.tail _ (List.Mem.tail _ (List.Mem.head _)))))) (z_const X rfl (z_add X rfl (z_sld X S hL rfl (show 0 ≤ (i + 1) ∧ (i + 1) < (L : Int) by first | exact sx_in hi (by decide) | omega) ?_))))))
  have sr21 : rng (sc xs (i + 1)) := sc_rng
  refine z_aload_n X (x := q1) rfl (List.Mem.tail _ (List.Mem.head _)) (z_load X (x := i) rfl (List.Mem.tail _ (List.Mem.tail _ (List.Mem.tail _ (List.Mem.tail _ (List.Mem.tail _ (List.Mem.head _)))))) (z_const X rfl (z_add X rfl (z_sld X S hL rfl (show 0 ≤ (i + 2) ∧ (i + 2) < (L : Int) by first | exact sx_in hi (by decide) | omega) ?_))))
  have sr22 : rng (sc xs (i + 2)) := sc_rng
  refine z_callV X 179 (rm := rmN 238) (As := [.int (Int32.ofInt (sc xs (i + 1))), .int (Int32.ofInt (sc xs (i + 2)))]) (st := []) rfl rfl (by decide) rfl (by rw [E.1, E.2.1, E.2.2.1]; exact k_peak G Is19 JRLx_s19 (by first | exact ⟨sr21.1, sr21.2⟩ | omega) (by first | exact ⟨sr22.1, sr22.2⟩ | omega)) ⟨by rw [E.2.2.2]; exact (show 39 + 1 ≤ 2048 from oq_dead3895), by rw [E.2.2.2]; exact (show 8 + (5 + 11) + 1622 ≤ 84000 from oq_16841511), by rw [E.2.2.2]; exact (show (ce + 2) + 0 ≤ 601024 by omega), by rw [E.2.2.2]; exact (show (sl + 12) + 0 ≤ 7293034 by omega)⟩ (Nat.le_of_ble_eq_true rfl) (fun vv s23 hq => ?_) (fun ee s23 hq => ?_)
  rotate_left
  · obtain ⟨Is23, Fs23, JRLx_s23, e24, hv, hrs23, hps23⟩ := hq; cases hv
  obtain ⟨Is23, Fs23, JRLx_s23, e24, hv, hrs23, hps23⟩ := hq
  cases hv
  have JRLx_s23 : RLx s23 := RLx_fm Fs23 (by decide) JRLx_s19
  have JFEQ_s23 : FEQ s23 := FEQ_fm Fs23 (by decide) JFEQ_s19
  have JREQ_s23 : REQ 39 234 28 s23 := REQ_fm Fs23 (by decide) JREQ_s19
  have JSEQ_s23 : SEQ s23 := SEQ_fm Fs23 (by decide) JSEQ_s19
  have JARJ_s23 : ARJ s23 := ARJ_fm Fs23 ⟨by decide +kernel, by decide +kernel, by decide +kernel, by decide +kernel, by decide +kernel, by decide +kernel, by decide +kernel, by decide +kernel⟩ JARJ_s19
  have JPTJ_s23 : PTJ s23 := PTJ_fm Fs23 (by decide +kernel) JPTJ_s19
  have ws23_0 : iI s23 0 = iI s19 0 := fm_iq Fs23 rfl
  have ws23_74 : iI s23 74 = iI s19 74 := fm_iq Fs23 rfl
  have ws23_9 : iI s23 9 = iI s19 9 := fm_iq Fs23 rfl
  have ws23_90 : iI s23 90 = iI s19 90 := fm_iq Fs23 rfl
  have ws23_20 : iI s23 20 = iI s19 20 := fm_iq Fs23 rfl
  have ws23_98 : iI s23 98 = iI s19 98 := fm_iq Fs23 rfl
  have ws23_28 : iI s23 28 = iI s19 28 := fm_iq Fs23 rfl
  have ws23_97 : iI s23 97 = iI s19 97 := fm_iq Fs23 rfl
  have ws23_32 : iI s23 32 = iI s19 32 := fm_iq Fs23 rfl
  have ws23_99 : iI s23 99 = iI s19 99 := fm_iq Fs23 rfl
  have ws23_70 : iI s23 70 = iI s19 70 := fm_iq Fs23 rfl
  have ws23_107 : iI s23 107 = iI s19 107 := fm_iq Fs23 rfl
  have ws23_12 : iI s23 12 = iI s19 12 := fm_iq Fs23 rfl
  have ws23_83 : iI s23 83 = iI s19 83 := fm_iq Fs23 rfl
  have ws23_12 : iI s23 12 = iI s19 12 := fm_iq Fs23 rfl
  have ws23_89 : iI s23 89 = iI s19 89 := fm_iq Fs23 rfl
  have wos23 : iO s23 = iO s19 := fm_o Fs23 (by decide)
  show WS k 783 [(5, .int (Int32.ofInt e20)), (0, .ref q1), (1, .ref (A 0)), (2, .ref (A 179)), (3, .ref (A 517)), (4, .int (Int32.ofInt i))] [.int (Int32.ofInt e24)] (Wd A dT s23) (ce + 2) (sl + 12)
  refine z_store X (lv' := [(6, .int (Int32.ofInt e24)), (5, .int (Int32.ofInt e20)), (0, .ref q1), (1, .ref (A 0)), (2, .ref (A 179)), (3, .ref (A 517)), (4, .int (Int32.ofInt i))]) rfl (by decide) (fun _ h => h) (z_goto X (t := 1866) rfl rfl (w_widen (ce' := ce + 29) (sl' := sl + 222) (by first | exact Nat.le_add_right _ _ | exact Nat.add_le_add_left (by decide) _ | omega) (by first | exact Nat.le_add_right _ _ | exact Nat.add_le_add_left (by decide) _ | omega) ?_))
  exact WS_lv (lv := [(0, .ref q1), (1, .ref (A 0)), (2, .ref (A 179)), (3, .ref (A 517)), (4, .int (Int32.ofInt i))]) (List.forall_mem_cons.mpr ⟨(List.Mem.tail _ (List.Mem.tail _ (List.Mem.head _))), (List.forall_mem_cons.mpr ⟨(List.Mem.tail _ (List.Mem.tail _ (List.Mem.tail _ (List.Mem.head _)))), (List.forall_mem_cons.mpr ⟨(List.Mem.tail _ (List.Mem.tail _ (List.Mem.tail _ (List.Mem.tail _ (List.Mem.head _))))), (List.forall_mem_cons.mpr ⟨(List.Mem.tail _ (List.Mem.tail _ (List.Mem.tail _ (List.Mem.tail _ (List.Mem.tail _ (List.Mem.head _)))))), (List.forall_mem_cons.mpr ⟨(List.Mem.tail _ (List.Mem.tail _ (List.Mem.tail _ (List.Mem.tail _ (List.Mem.tail _ (List.Mem.tail _ (List.Mem.head _))))))), (fun q h => absurd h List.not_mem_nil)⟩)⟩)⟩)⟩)⟩) (hk A _ Is23 JRLx_s23 JFEQ_s23 JREQ_s23 JSEQ_s23 JARJ_s23 JPTJ_s23 (by first | exact oq_f34933ba ws23_89 ws19_89 p1 b16.1 | omega) (by first | exact oq_d7ce4408 ws23_12 ws19_12 p2 | omega) (by first | exact oq_5bcdc35f ws23_74 ws23_0 ws19_74 ws19_0 p3 | omega) (by first | exact oq_5bcdc35f ws23_90 ws23_9 ws19_90 ws19_9 p4 | omega) (by first | exact oq_5bcdc35f ws23_98 ws23_20 ws19_98 ws19_20 p5 | omega) (by first | exact oq_5bcdc35f ws23_97 ws23_28 ws19_97 ws19_28 p6 | omega) (by first | exact oq_5bcdc35f ws23_99 ws23_32 ws19_99 ws19_32 p7 | omega) (by first | exact oq_5bcdc35f ws23_107 ws23_70 ws19_107 ws19_70 p8 | omega) (by first | exact oq_5bc06b03 ws23_83 ws23_12 ws19_83 p9 ws19_12 | omega))
theorem lc_13 (G : GX l s0 D tys a0 dT) (GR : RS0 s0) (SF : SF0 s0) (GT : TXs0 s0) (GW : TXw0 s0) {k : kx_T} (X : AX k 350 dT) (E : kL k = l ∧ kS0 k = s0 ∧ kD k = D ∧ kR k = room_1) {q1 L : Nat} {xs : Nat → Int32} (S : SX k q1 L xs) (hL : L ≤ 3072) (I : Bd s) (jR : RLx s) (jFEQ : FEQ s) (jREQ : REQ 39 234 28 s) (jSEQ : SEQ s) (jARJ : ARJ s) (jPTJ : PTJ s) (p1 : iI s 89 = 1) (p2 : iI s 12 ≤ 8) (p3 : iI s 0 = iI s 74) (p4 : iI s 9 = iI s 90) (p5 : iI s 20 = iI s 98) (p6 : iI s 28 = iI s 97) (p7 : iI s 32 = iI s 99) (p8 : iI s 70 = iI s 107) (p9 : iI s 12 = iI s 83) {i : Int} (hi : 0 ≤ i ∧ i + 6 ≤ (L : Int)) {ce sl : Nat} (hce : ce + 29 ≤ 601024) (hsl : sl + 222 ≤ 7293034) (hk : ∀ (A : Nat → Nat) (t : PS), Bd t → RLx t → FEQ t → REQ 39 234 28 t → SEQ t → ARJ t → PTJ t → iI t 89 = 1 → iI t 12 ≤ 8 → iI t 0 = iI t 74 → iI t 9 = iI t 90 → iI t 20 = iI t 98 → iI t 28 = iI t 97 → iI t 32 = iI t 99 → iI t 70 = iI t 107 → iI t 12 = iI t 83 → WS k 1866 [(0, .ref q1), (1, .ref (A 0)), (2, .ref (A 179)), (3, .ref (A 517)), (4, .int (Int32.ofInt i))] [] (Wd A dT t) (ce + 29) (sl + 222)) : WS k 788 [(0, .ref q1), (1, .ref (A 0)), (2, .ref (A 179)), (3, .ref (A 517)), (4, .int (Int32.ofInt i))] [] (Wd A dT s) ce sl := by
  have F : Fm [73] [1460, 231, 232, 230] s s := fm_rf _ _ s
  have b1 := bi_0 I
  have b2 := bi_74 I
  have b3 := bi_9 I
  have b4 := bi_90 I
  have b5 := bi_20 I
  have b6 := bi_98 I
  have b7 := bi_28 I
  have b8 := bi_97 I
  have b9 := bi_32 I
  have b10 := bi_99 I
  have b11 := bi_70 I
  have b12 := bi_107 I
  have b13 := bi_12 I
  have b14 := bi_83 I
  have b15 := bi_12 I
  have b16 := bi_89 I
  refine z_aload_n X (x := A 0) rfl (List.Mem.tail _ (List.Mem.head _)) (z_aload_n X (x := q1) rfl (List.Mem.head _) (z_load X (x := i) rfl (List.Mem.tail _ (List.Mem.tail _ (List.Mem.tail _ (List.Mem.tail _ (List.Mem.head _))))) (z_const X rfl (z_add X rfl (z_sld X S hL rfl (show 0 ≤ (i + 1) ∧ (i + 1) < (L : Int) by first | exact sx_in hi (by decide) | omega) ?_)))))
  have sr17 : rng (sc xs (i + 1)) := sc_rng
  refine z_aload_n X (x := A 517) rfl (List.Mem.tail _ (List.Mem.tail _ (List.Mem.tail _ (List.Mem.head _)))) (z_callL X (rm := rmN 325) (As := [.ref (A 0), .int (Int32.ofInt (sc xs (i + 1))), .ref (A 517)]) (st := []) rfl (by decide) rfl (by rw [E.1, E.2.1, E.2.2.1]; exact lw_whole G I (by omega)) ⟨by rw [E.2.2.2]; exact (show 10 + 1 ≤ 2048 by decide), by rw [E.2.2.2]; exact (show 8 + (4 + 11) + 203 ≤ 84000 by decide), by rw [E.2.2.2]; exact (show ce + 1 ≤ 601024 by first | exact rmo_1 hce (by decide) | exact rmo_2 hce (by decide) | omega), by rw [E.2.2.2]; exact (show sl + 6 ≤ 7293034 by first | exact rmo_1 hsl (by decide) | exact rmo_2 hsl (by decide) | omega)⟩ (Nat.le_of_ble_eq_true rfl) (fun vv A s18 hA2 hq => ?_) (fun ee A s18 hA2 hq => ?_))
  rotate_left
  · obtain ⟨Is18, Fs18, e19, hv, hrs18, hps18⟩ := hq; cases hv
  obtain ⟨Is18, Fs18, e19, hv, hrs18, hps18⟩ := hq
  cases hv
  rw [← hA2 0 (by decide)]
  rw [← hA2 179 (by decide)]
  rw [← hA2 517 (by decide)]
  have JRLx_s18 : RLx s18 := RLx_fm Fs18 (by decide) jR
  have JFEQ_s18 : FEQ s18 := FEQ_fm Fs18 (by decide) jFEQ
  have JREQ_s18 : REQ 39 234 28 s18 := REQ_fm Fs18 (by decide) jREQ
  have JSEQ_s18 : SEQ s18 := SEQ_fm Fs18 (by decide) jSEQ
  have JARJ_s18 : ARJ s18 := ARJ_fm Fs18 ⟨by decide +kernel, by decide +kernel, by decide +kernel, by decide +kernel, by decide +kernel, by decide +kernel, by decide +kernel, by decide +kernel⟩ jARJ
  have JPTJ_s18 : PTJ s18 := PTJ_fm Fs18 (by decide +kernel) jPTJ
  have ws18_0 : iI s18 0 = iI s 0 := fm_iq Fs18 rfl
  have ws18_74 : iI s18 74 = iI s 74 := fm_iq Fs18 rfl
  have ws18_9 : iI s18 9 = iI s 9 := fm_iq Fs18 rfl
  have ws18_90 : iI s18 90 = iI s 90 := fm_iq Fs18 rfl
  have ws18_20 : iI s18 20 = iI s 20 := fm_iq Fs18 rfl
  have ws18_98 : iI s18 98 = iI s 98 := fm_iq Fs18 rfl
  have ws18_28 : iI s18 28 = iI s 28 := fm_iq Fs18 rfl
  have ws18_97 : iI s18 97 = iI s 97 := fm_iq Fs18 rfl
  have ws18_32 : iI s18 32 = iI s 32 := fm_iq Fs18 rfl
  have ws18_99 : iI s18 99 = iI s 99 := fm_iq Fs18 rfl
  have ws18_70 : iI s18 70 = iI s 70 := fm_iq Fs18 rfl
  have ws18_107 : iI s18 107 = iI s 107 := fm_iq Fs18 rfl
  have ws18_12 : iI s18 12 = iI s 12 := fm_iq Fs18 rfl
  have ws18_83 : iI s18 83 = iI s 83 := fm_iq Fs18 rfl
  have ws18_12 : iI s18 12 = iI s 12 := fm_iq Fs18 rfl
  have ws18_89 : iI s18 89 = iI s 89 := fm_iq Fs18 rfl
  show WS k 799 [(0, .ref q1), (1, .ref (A 0)), (2, .ref (A 179)), (3, .ref (A 517)), (4, .int (Int32.ofInt i))] [.int (Int32.ofInt e19)] (Wd A dT s18) (ce + 1) (sl + 6)
  refine z_store X (lv' := [(5, .int (Int32.ofInt e19)), (0, .ref q1), (1, .ref (A 0)), (2, .ref (A 179)), (3, .ref (A 517)), (4, .int (Int32.ofInt i))]) rfl (by decide) (fun _ h => h) (z_aload_n X (x := A 179) rfl (List.Mem.tail _ (List.Mem.tail _ (List.Mem.tail _ (List.Mem.head _)))) (z_aload_n X (x := q1) rfl (List.Mem.tail _ (List.Mem.head _)) (z_load X (x := i) rfl (List.Mem.tail _ (List.Mem.tail _ (List.Mem.tail _ (List.Mem.tail _ (List.Mem.tail _ (List.Mem.head _)))))) (z_const X rfl (z_add X rfl (z_sld X S hL rfl (show 0 ≤ (i + 1) ∧ (i + 1) < (L : Int) by first | exact sx_in hi (by decide) | omega) ?_))))))
  have sr20 : rng (sc xs (i + 1)) := sc_rng
  refine z_callV X 179 (rm := rmN 241) (As := [.int (Int32.ofInt (sc xs (i + 1)))]) (st := []) rfl rfl (by decide) rfl (by rw [E.1, E.2.1, E.2.2.1]; exact k_whole G Is18 (by first | exact ⟨sr20.1, sr20.2⟩ | omega)) ⟨by rw [E.2.2.2]; exact (show 9 + 1 ≤ 2048 from oq_1d601463), by rw [E.2.2.2]; exact (show 8 + (2 + 11) + 171 ≤ 84000 from oq_485672f1), by rw [E.2.2.2]; exact (show (ce + 1) + 0 ≤ 601024 by omega), by rw [E.2.2.2]; exact (show (sl + 6) + 0 ≤ 7293034 by omega)⟩ (Nat.le_of_ble_eq_true rfl) (fun vv s21 hq => ?_) (fun ee s21 hq => ?_)
  rotate_left
  · obtain ⟨Is21, Fs21, e22, hv, hrs21, hps21⟩ := hq; cases hv
  obtain ⟨Is21, Fs21, e22, hv, hrs21, hps21⟩ := hq
  cases hv
  have JRLx_s21 : RLx s21 := RLx_fm Fs21 (by decide) JRLx_s18
  have JFEQ_s21 : FEQ s21 := FEQ_fm Fs21 (by decide) JFEQ_s18
  have JREQ_s21 : REQ 39 234 28 s21 := REQ_fm Fs21 (by decide) JREQ_s18
  have JSEQ_s21 : SEQ s21 := SEQ_fm Fs21 (by decide) JSEQ_s18
  have JARJ_s21 : ARJ s21 := ARJ_fm Fs21 ⟨by decide +kernel, by decide +kernel, by decide +kernel, by decide +kernel, by decide +kernel, by decide +kernel, by decide +kernel, by decide +kernel⟩ JARJ_s18
  have JPTJ_s21 : PTJ s21 := PTJ_fm Fs21 (by decide +kernel) JPTJ_s18
  have ws21_0 : iI s21 0 = iI s18 0 := fm_iq Fs21 rfl
  have ws21_74 : iI s21 74 = iI s18 74 := fm_iq Fs21 rfl
  have ws21_9 : iI s21 9 = iI s18 9 := fm_iq Fs21 rfl
  have ws21_90 : iI s21 90 = iI s18 90 := fm_iq Fs21 rfl
  have ws21_20 : iI s21 20 = iI s18 20 := fm_iq Fs21 rfl
  have ws21_98 : iI s21 98 = iI s18 98 := fm_iq Fs21 rfl
  have ws21_28 : iI s21 28 = iI s18 28 := fm_iq Fs21 rfl
  have ws21_97 : iI s21 97 = iI s18 97 := fm_iq Fs21 rfl
  have ws21_32 : iI s21 32 = iI s18 32 := fm_iq Fs21 rfl
  have ws21_99 : iI s21 99 = iI s18 99 := fm_iq Fs21 rfl
  have ws21_70 : iI s21 70 = iI s18 70 := fm_iq Fs21 rfl
  have ws21_107 : iI s21 107 = iI s18 107 := fm_iq Fs21 rfl
  have ws21_12 : iI s21 12 = iI s18 12 := fm_iq Fs21 rfl
  have ws21_83 : iI s21 83 = iI s18 83 := fm_iq Fs21 rfl
  have ws21_12 : iI s21 12 = iI s18 12 := fm_iq Fs21 rfl
  have ws21_89 : iI s21 89 = iI s18 89 := fm_iq Fs21 rfl
  have wos21 : iO s21 = iO s18 := fm_o Fs21 (by decide)
  show WS k 811 [(5, .int (Int32.ofInt e19)), (0, .ref q1), (1, .ref (A 0)), (2, .ref (A 179)), (3, .ref (A 517)), (4, .int (Int32.ofInt i))] [.int (Int32.ofInt e22)] (Wd A dT s21) (ce + 1) (sl + 6)
  refine z_store X (lv' := [(6, .int (Int32.ofInt e22)), (5, .int (Int32.ofInt e19)), (0, .ref q1), (1, .ref (A 0)), (2, .ref (A 179)), (3, .ref (A 517)), (4, .int (Int32.ofInt i))]) rfl (by decide) (fun _ h => h) (z_goto X (t := 1866) rfl rfl (w_widen (ce' := ce + 29) (sl' := sl + 222) (by first | exact Nat.le_add_right _ _ | exact Nat.add_le_add_left (by decide) _ | omega) (by first | exact Nat.le_add_right _ _ | exact Nat.add_le_add_left (by decide) _ | omega) ?_))
  exact WS_lv (lv := [(0, .ref q1), (1, .ref (A 0)), (2, .ref (A 179)), (3, .ref (A 517)), (4, .int (Int32.ofInt i))]) (List.forall_mem_cons.mpr ⟨(List.Mem.tail _ (List.Mem.tail _ (List.Mem.head _))), (List.forall_mem_cons.mpr ⟨(List.Mem.tail _ (List.Mem.tail _ (List.Mem.tail _ (List.Mem.head _)))), (List.forall_mem_cons.mpr ⟨(List.Mem.tail _ (List.Mem.tail _ (List.Mem.tail _ (List.Mem.tail _ (List.Mem.head _))))), (List.forall_mem_cons.mpr ⟨(List.Mem.tail _ (List.Mem.tail _ (List.Mem.tail _ (List.Mem.tail _ (List.Mem.tail _ (List.Mem.head _)))))), (List.forall_mem_cons.mpr ⟨(List.Mem.tail _ (List.Mem.tail _ (List.Mem.tail _ (List.Mem.tail _ (List.Mem.tail _ (List.Mem.tail _ (List.Mem.head _))))))), (fun q h => absurd h List.not_mem_nil)⟩)⟩)⟩)⟩)⟩) (hk A _ Is21 JRLx_s21 JFEQ_s21 JREQ_s21 JSEQ_s21 JARJ_s21 JPTJ_s21 (by first | exact oq_f34933ba ws21_89 ws18_89 p1 b16.1 | omega) (by first | exact oq_d7ce4408 ws21_12 ws18_12 p2 | omega) (by first | exact oq_5bcdc35f ws21_74 ws21_0 ws18_74 ws18_0 p3 | omega) (by first | exact oq_5bcdc35f ws21_90 ws21_9 ws18_90 ws18_9 p4 | omega) (by first | exact oq_5bcdc35f ws21_98 ws21_20 ws18_98 ws18_20 p5 | omega) (by first | exact oq_5bcdc35f ws21_97 ws21_28 ws18_97 ws18_28 p6 | omega) (by first | exact oq_5bcdc35f ws21_99 ws21_32 ws18_99 ws18_32 p7 | omega) (by first | exact oq_5bcdc35f ws21_107 ws21_70 ws18_107 ws18_70 p8 | omega) (by first | exact oq_5bc06b03 ws21_83 ws21_12 ws18_83 p9 ws18_12 | omega))
theorem lc_14 (G : GX l s0 D tys a0 dT) (GR : RS0 s0) (SF : SF0 s0) (GT : TXs0 s0) (GW : TXw0 s0) {k : kx_T} (X : AX k 350 dT) (E : kL k = l ∧ kS0 k = s0 ∧ kD k = D ∧ kR k = room_1) {q1 L : Nat} {xs : Nat → Int32} (S : SX k q1 L xs) (hL : L ≤ 3072) (I : Bd s) (jR : RLx s) (jFEQ : FEQ s) (jREQ : REQ 39 234 28 s) (jSEQ : SEQ s) (jARJ : ARJ s) (jPTJ : PTJ s) (p1 : iI s 89 = 1) (p2 : iI s 12 ≤ 8) (p3 : iI s 0 = iI s 74) (p4 : iI s 9 = iI s 90) (p5 : iI s 20 = iI s 98) (p6 : iI s 28 = iI s 97) (p7 : iI s 32 = iI s 99) (p8 : iI s 70 = iI s 107) (p9 : iI s 12 = iI s 83) {i : Int} (hi : 0 ≤ i ∧ i + 6 ≤ (L : Int)) {ce sl : Nat} (hce : ce + 29 ≤ 601024) (hsl : sl + 222 ≤ 7293034) (hk : ∀ (A : Nat → Nat) (t : PS), Bd t → RLx t → FEQ t → REQ 39 234 28 t → SEQ t → ARJ t → PTJ t → iI t 89 = 1 → iI t 12 ≤ 8 → iI t 0 = iI t 74 → iI t 9 = iI t 90 → iI t 20 = iI t 98 → iI t 28 = iI t 97 → iI t 32 = iI t 99 → iI t 70 = iI t 107 → iI t 12 = iI t 83 → WS k 1866 [(0, .ref q1), (1, .ref (A 0)), (2, .ref (A 179)), (3, .ref (A 517)), (4, .int (Int32.ofInt i))] [] (Wd A dT t) (ce + 29) (sl + 222)) : WS k 816 [(0, .ref q1), (1, .ref (A 0)), (2, .ref (A 179)), (3, .ref (A 517)), (4, .int (Int32.ofInt i))] [] (Wd A dT s) ce sl := by
  have F : Fm [73] [1460, 231, 232, 230] s s := fm_rf _ _ s
  have b1 := bi_0 I
  have b2 := bi_74 I
  have b3 := bi_9 I
  have b4 := bi_90 I
  have b5 := bi_20 I
  have b6 := bi_98 I
  have b7 := bi_28 I
  have b8 := bi_97 I
  have b9 := bi_32 I
  have b10 := bi_99 I
  have b11 := bi_70 I
  have b12 := bi_107 I
  have b13 := bi_12 I
  have b14 := bi_83 I
  have b15 := bi_12 I
  have b16 := bi_89 I
  refine z_aload_n X (x := A 0) rfl (List.Mem.tail _ (List.Mem.head _)) (z_aload_n X (x := q1) rfl (List.Mem.head _) (z_load X (x := i) rfl (List.Mem.tail _ (List.Mem.tail _ (List.Mem.tail _ (List.Mem.tail _ (List.Mem.head _))))) (z_const X rfl (z_add X rfl (z_sld X S hL rfl (show 0 ≤ (i + 1) ∧ (i + 1) < (L : Int) by first | exact sx_in hi (by decide) | omega) ?_)))))
  have sr17 : rng (sc xs (i + 1)) := sc_rng
  refine z_aload_n X (x := q1) rfl (List.Mem.head _) (z_load X (x := i) rfl (List.Mem.tail _ (List.Mem.tail _ (List.Mem.tail _ (List.Mem.tail _ (List.Mem.head _))))) (z_const X rfl (z_add X rfl (z_sld X S hL rfl (show 0 ≤ (i + 2) ∧ (i + 2) < (L : Int) by first | exact sx_in hi (by decide) | omega) ?_))))
  have sr18 : rng (sc xs (i + 2)) := sc_rng
  refine z_aload_n X (x := A 517) rfl (List.Mem.tail _ (List.Mem.tail _ (List.Mem.tail _ (List.Mem.head _)))) (z_callL X (rm := rmN 326) (As := [.ref (A 0), .int (Int32.ofInt (sc xs (i + 1))), .int (Int32.ofInt (sc xs (i + 2))), .ref (A 517)]) (st := []) rfl (by decide) rfl (by rw [E.1, E.2.1, E.2.2.1]; exact lw_neck G I (by omega) (by omega)) ⟨by rw [E.2.2.2]; exact (show 11 + 1 ≤ 2048 by decide), by rw [E.2.2.2]; exact (show 8 + (5 + 11) + 235 ≤ 84000 by decide), by rw [E.2.2.2]; exact (show ce + 1 ≤ 601024 by first | exact rmo_1 hce (by decide) | exact rmo_2 hce (by decide) | omega), by rw [E.2.2.2]; exact (show sl + 6 ≤ 7293034 by first | exact rmo_1 hsl (by decide) | exact rmo_2 hsl (by decide) | omega)⟩ (Nat.le_of_ble_eq_true rfl) (fun vv A s19 hA2 hq => ?_) (fun ee A s19 hA2 hq => ?_))
  rotate_left
  · obtain ⟨Is19, Fs19, e20, hv, hrs19, hps19⟩ := hq; cases hv
  obtain ⟨Is19, Fs19, e20, hv, hrs19, hps19⟩ := hq
  cases hv
  rw [← hA2 0 (by decide)]
  rw [← hA2 179 (by decide)]
  rw [← hA2 517 (by decide)]
  have JRLx_s19 : RLx s19 := RLx_fm Fs19 (by decide) jR
  have JFEQ_s19 : FEQ s19 := FEQ_fm Fs19 (by decide) jFEQ
  have JREQ_s19 : REQ 39 234 28 s19 := REQ_fm Fs19 (by decide) jREQ
  have JSEQ_s19 : SEQ s19 := SEQ_fm Fs19 (by decide) jSEQ
  have JARJ_s19 : ARJ s19 := ARJ_fm Fs19 ⟨by decide +kernel, by decide +kernel, by decide +kernel, by decide +kernel, by decide +kernel, by decide +kernel, by decide +kernel, by decide +kernel⟩ jARJ
  have JPTJ_s19 : PTJ s19 := PTJ_fm Fs19 (by decide +kernel) jPTJ
  have ws19_0 : iI s19 0 = iI s 0 := fm_iq Fs19 rfl
  have ws19_74 : iI s19 74 = iI s 74 := fm_iq Fs19 rfl
  have ws19_9 : iI s19 9 = iI s 9 := fm_iq Fs19 rfl
  have ws19_90 : iI s19 90 = iI s 90 := fm_iq Fs19 rfl
  have ws19_20 : iI s19 20 = iI s 20 := fm_iq Fs19 rfl
  have ws19_98 : iI s19 98 = iI s 98 := fm_iq Fs19 rfl
  have ws19_28 : iI s19 28 = iI s 28 := fm_iq Fs19 rfl
  have ws19_97 : iI s19 97 = iI s 97 := fm_iq Fs19 rfl
  have ws19_32 : iI s19 32 = iI s 32 := fm_iq Fs19 rfl
  have ws19_99 : iI s19 99 = iI s 99 := fm_iq Fs19 rfl
  have ws19_70 : iI s19 70 = iI s 70 := fm_iq Fs19 rfl
  have ws19_107 : iI s19 107 = iI s 107 := fm_iq Fs19 rfl
  have ws19_12 : iI s19 12 = iI s 12 := fm_iq Fs19 rfl
  have ws19_83 : iI s19 83 = iI s 83 := fm_iq Fs19 rfl
  have ws19_12 : iI s19 12 = iI s 12 := fm_iq Fs19 rfl
  have ws19_89 : iI s19 89 = iI s 89 := fm_iq Fs19 rfl
  show WS k 833 [(0, .ref q1), (1, .ref (A 0)), (2, .ref (A 179)), (3, .ref (A 517)), (4, .int (Int32.ofInt i))] [.int (Int32.ofInt e20)] (Wd A dT s19) (ce + 1) (sl + 6)
  refine z_store X (lv' := [(5, .int (Int32.ofInt e20)), (0, .ref q1), (1, .ref (A 0)), (2, .ref (A 179)), (3, .ref (A 517)), (4, .int (Int32.ofInt i))]) rfl (by decide) (fun _ h => h) (z_aload_n X (x := A 179) rfl (List.Mem.tail _ (List.Mem.tail _ (List.Mem.tail _ (List.Mem.head _)))) (z_aload_n X (x := q1) rfl (List.Mem.tail _ (List.Mem.head _)) (z_load X (x := i) rfl (List.Mem.tail _ (List.Mem.tail _ (List.Mem.tail _ (List.Mem.tail _ (List.Mem.tail _ (List.Mem.head _)))))) (z_const X rfl (z_add X rfl (z_sld X S hL rfl (show 0 ≤ (i + 1) ∧ (i + 1) < (L : Int) by first | exact sx_in hi (by decide) | omega) ?_))))))
  have sr21 : rng (sc xs (i + 1)) := sc_rng
  refine z_aload_n X (x := q1) rfl (List.Mem.tail _ (List.Mem.head _)) (z_load X (x := i) rfl (List.Mem.tail _ (List.Mem.tail _ (List.Mem.tail _ (List.Mem.tail _ (List.Mem.tail _ (List.Mem.head _)))))) (z_const X rfl (z_add X rfl (z_sld X S hL rfl (show 0 ≤ (i + 2) ∧ (i + 2) < (L : Int) by first | exact sx_in hi (by decide) | omega) ?_))))
  have sr22 : rng (sc xs (i + 2)) := sc_rng
  refine z_callV X 179 (rm := rmN 242) (As := [.int (Int32.ofInt (sc xs (i + 1))), .int (Int32.ofInt (sc xs (i + 2)))]) (st := []) rfl rfl (by decide) rfl (by rw [E.1, E.2.1, E.2.2.1]; exact k_neck G Is19 (by first | exact ⟨sr21.1, sr21.2⟩ | omega) (by first | exact ⟨sr22.1, sr22.2⟩ | omega)) ⟨by rw [E.2.2.2]; exact (show 9 + 1 ≤ 2048 from oq_1d601463), by rw [E.2.2.2]; exact (show 8 + (6 + 11) + 171 ≤ 84000 from oq_da2b07c8), by rw [E.2.2.2]; exact (show (ce + 1) + 0 ≤ 601024 by omega), by rw [E.2.2.2]; exact (show (sl + 6) + 0 ≤ 7293034 by omega)⟩ (Nat.le_of_ble_eq_true rfl) (fun vv s23 hq => ?_) (fun ee s23 hq => ?_)
  rotate_left
  · obtain ⟨Is23, Fs23, e24, hv, hrs23, hps23⟩ := hq; cases hv
  obtain ⟨Is23, Fs23, e24, hv, hrs23, hps23⟩ := hq
  cases hv
  have JRLx_s23 : RLx s23 := RLx_fm Fs23 (by decide) JRLx_s19
  have JFEQ_s23 : FEQ s23 := FEQ_fm Fs23 (by decide) JFEQ_s19
  have JREQ_s23 : REQ 39 234 28 s23 := REQ_fm Fs23 (by decide) JREQ_s19
  have JSEQ_s23 : SEQ s23 := SEQ_fm Fs23 (by decide) JSEQ_s19
  have JARJ_s23 : ARJ s23 := ARJ_fm Fs23 ⟨by decide +kernel, by decide +kernel, by decide +kernel, by decide +kernel, by decide +kernel, by decide +kernel, by decide +kernel, by decide +kernel⟩ JARJ_s19
  have JPTJ_s23 : PTJ s23 := PTJ_fm Fs23 (by decide +kernel) JPTJ_s19
  have ws23_0 : iI s23 0 = iI s19 0 := fm_iq Fs23 rfl
  have ws23_74 : iI s23 74 = iI s19 74 := fm_iq Fs23 rfl
  have ws23_9 : iI s23 9 = iI s19 9 := fm_iq Fs23 rfl
  have ws23_90 : iI s23 90 = iI s19 90 := fm_iq Fs23 rfl
  have ws23_20 : iI s23 20 = iI s19 20 := fm_iq Fs23 rfl
  have ws23_98 : iI s23 98 = iI s19 98 := fm_iq Fs23 rfl
  have ws23_28 : iI s23 28 = iI s19 28 := fm_iq Fs23 rfl
  have ws23_97 : iI s23 97 = iI s19 97 := fm_iq Fs23 rfl
  have ws23_32 : iI s23 32 = iI s19 32 := fm_iq Fs23 rfl
  have ws23_99 : iI s23 99 = iI s19 99 := fm_iq Fs23 rfl
  have ws23_70 : iI s23 70 = iI s19 70 := fm_iq Fs23 rfl
  have ws23_107 : iI s23 107 = iI s19 107 := fm_iq Fs23 rfl
  have ws23_12 : iI s23 12 = iI s19 12 := fm_iq Fs23 rfl
  have ws23_83 : iI s23 83 = iI s19 83 := fm_iq Fs23 rfl
  have ws23_12 : iI s23 12 = iI s19 12 := fm_iq Fs23 rfl
  have ws23_89 : iI s23 89 = iI s19 89 := fm_iq Fs23 rfl
  have wos23 : iO s23 = iO s19 := fm_o Fs23 (by decide)
  show WS k 851 [(5, .int (Int32.ofInt e20)), (0, .ref q1), (1, .ref (A 0)), (2, .ref (A 179)), (3, .ref (A 517)), (4, .int (Int32.ofInt i))] [.int (Int32.ofInt e24)] (Wd A dT s23) (ce + 1) (sl + 6)
  refine z_store X (lv' := [(6, .int (Int32.ofInt e24)), (5, .int (Int32.ofInt e20)), (0, .ref q1), (1, .ref (A 0)), (2, .ref (A 179)), (3, .ref (A 517)), (4, .int (Int32.ofInt i))]) rfl (by decide) (fun _ h => h) (z_goto X (t := 1866) rfl rfl (w_widen (ce' := ce + 29) (sl' := sl + 222) (by first | exact Nat.le_add_right _ _ | exact Nat.add_le_add_left (by decide) _ | omega) (by first | exact Nat.le_add_right _ _ | exact Nat.add_le_add_left (by decide) _ | omega) ?_))
  exact WS_lv (lv := [(0, .ref q1), (1, .ref (A 0)), (2, .ref (A 179)), (3, .ref (A 517)), (4, .int (Int32.ofInt i))]) (List.forall_mem_cons.mpr ⟨(List.Mem.tail _ (List.Mem.tail _ (List.Mem.head _))), (List.forall_mem_cons.mpr ⟨(List.Mem.tail _ (List.Mem.tail _ (List.Mem.tail _ (List.Mem.head _)))), (List.forall_mem_cons.mpr ⟨(List.Mem.tail _ (List.Mem.tail _ (List.Mem.tail _ (List.Mem.tail _ (List.Mem.head _))))), (List.forall_mem_cons.mpr ⟨(List.Mem.tail _ (List.Mem.tail _ (List.Mem.tail _ (List.Mem.tail _ (List.Mem.tail _ (List.Mem.head _)))))), (List.forall_mem_cons.mpr ⟨(List.Mem.tail _ (List.Mem.tail _ (List.Mem.tail _ (List.Mem.tail _ (List.Mem.tail _ (List.Mem.tail _ (List.Mem.head _))))))), (fun q h => absurd h List.not_mem_nil)⟩)⟩)⟩)⟩)⟩) (hk A _ Is23 JRLx_s23 JFEQ_s23 JREQ_s23 JSEQ_s23 JARJ_s23 JPTJ_s23 (by first | exact oq_f34933ba ws23_89 ws19_89 p1 b16.1 | omega) (by first | exact oq_d7ce4408 ws23_12 ws19_12 p2 | omega) (by first | exact oq_5bcdc35f ws23_74 ws23_0 ws19_74 ws19_0 p3 | omega) (by first | exact oq_5bcdc35f ws23_90 ws23_9 ws19_90 ws19_9 p4 | omega) (by first | exact oq_5bcdc35f ws23_98 ws23_20 ws19_98 ws19_20 p5 | omega) (by first | exact oq_5bcdc35f ws23_97 ws23_28 ws19_97 ws19_28 p6 | omega) (by first | exact oq_5bcdc35f ws23_99 ws23_32 ws19_99 ws19_32 p7 | omega) (by first | exact oq_5bcdc35f ws23_107 ws23_70 ws19_107 ws19_70 p8 | omega) (by first | exact oq_5bc06b03 ws23_83 ws23_12 ws19_83 p9 ws19_12 | omega))
theorem lc_15 (G : GX l s0 D tys a0 dT) (GR : RS0 s0) (SF : SF0 s0) (GT : TXs0 s0) (GW : TXw0 s0) {k : kx_T} (X : AX k 350 dT) (E : kL k = l ∧ kS0 k = s0 ∧ kD k = D ∧ kR k = room_1) {q1 L : Nat} {xs : Nat → Int32} (S : SX k q1 L xs) (hL : L ≤ 3072) (I : Bd s) (jR : RLx s) (jFEQ : FEQ s) (jREQ : REQ 39 234 28 s) (jSEQ : SEQ s) (jARJ : ARJ s) (jPTJ : PTJ s) (p1 : iI s 89 = 1) (p2 : iI s 12 ≤ 8) (p3 : iI s 0 = iI s 74) (p4 : iI s 9 = iI s 90) (p5 : iI s 20 = iI s 98) (p6 : iI s 28 = iI s 97) (p7 : iI s 32 = iI s 99) (p8 : iI s 70 = iI s 107) (p9 : iI s 12 = iI s 83) {i : Int} (hi : 0 ≤ i ∧ i + 6 ≤ (L : Int)) {ce sl : Nat} (hce : ce + 29 ≤ 601024) (hsl : sl + 222 ≤ 7293034) (hk : ∀ (A : Nat → Nat) (t : PS), Bd t → RLx t → FEQ t → REQ 39 234 28 t → SEQ t → ARJ t → PTJ t → iI t 89 = 1 → iI t 12 ≤ 8 → iI t 0 = iI t 74 → iI t 9 = iI t 90 → iI t 20 = iI t 98 → iI t 28 = iI t 97 → iI t 32 = iI t 99 → iI t 70 = iI t 107 → iI t 12 = iI t 83 → WS k 1866 [(0, .ref q1), (1, .ref (A 0)), (2, .ref (A 179)), (3, .ref (A 517)), (4, .int (Int32.ofInt i))] [] (Wd A dT t) (ce + 29) (sl + 222)) : WS k 856 [(0, .ref q1), (1, .ref (A 0)), (2, .ref (A 179)), (3, .ref (A 517)), (4, .int (Int32.ofInt i))] [] (Wd A dT s) ce sl := by
  have F : Fm [73] [1460] s s := fm_rf _ _ s
  have b1 := bi_0 I
  have b2 := bi_74 I
  have b3 := bi_9 I
  have b4 := bi_90 I
  have b5 := bi_20 I
  have b6 := bi_98 I
  have b7 := bi_28 I
  have b8 := bi_97 I
  have b9 := bi_32 I
  have b10 := bi_99 I
  have b11 := bi_70 I
  have b12 := bi_107 I
  have b13 := bi_12 I
  have b14 := bi_83 I
  have b15 := bi_12 I
  have b16 := bi_89 I
  refine z_aload_n X (x := A 0) rfl (List.Mem.tail _ (List.Mem.head _)) (z_aload_n X (x := q1) rfl (List.Mem.head _) (z_load X (x := i) rfl (List.Mem.tail _ (List.Mem.tail _ (List.Mem.tail _ (List.Mem.tail _ (List.Mem.head _))))) (z_const X rfl (z_add X rfl (z_sld X S hL rfl (show 0 ≤ (i + 1) ∧ (i + 1) < (L : Int) by first | exact sx_in hi (by decide) | omega) ?_)))))
  have sr17 : rng (sc xs (i + 1)) := sc_rng
  refine z_aload_n X (x := A 517) rfl (List.Mem.tail _ (List.Mem.tail _ (List.Mem.tail _ (List.Mem.head _)))) (z_callL X (rm := rmN 327) (As := [.ref (A 0), .int (Int32.ofInt (sc xs (i + 1))), .ref (A 517)]) (st := []) rfl (by decide) rfl (by rw [E.1, E.2.1, E.2.2.1]; exact lw_shorts G I (by omega)) ⟨by rw [E.2.2.2]; exact (show 10 + 1 ≤ 2048 by decide), by rw [E.2.2.2]; exact (show 8 + (4 + 11) + 198 ≤ 84000 by decide), by rw [E.2.2.2]; exact (show ce + 1 ≤ 601024 by first | exact rmo_1 hce (by decide) | exact rmo_2 hce (by decide) | omega), by rw [E.2.2.2]; exact (show sl + 6 ≤ 7293034 by first | exact rmo_1 hsl (by decide) | exact rmo_2 hsl (by decide) | omega)⟩ (Nat.le_of_ble_eq_true rfl) (fun vv A s18 hA2 hq => ?_) (fun ee A s18 hA2 hq => ?_))
  rotate_left
  · obtain ⟨Is18, Fs18, e19, hv, hrs18, hps18⟩ := hq; cases hv
  obtain ⟨Is18, Fs18, e19, hv, hrs18, hps18⟩ := hq
  cases hv
  rw [← hA2 0 (by decide)]
  rw [← hA2 179 (by decide)]
  rw [← hA2 517 (by decide)]
  have JRLx_s18 : RLx s18 := RLx_fm Fs18 (by decide) jR
  have JFEQ_s18 : FEQ s18 := FEQ_fm Fs18 (by decide) jFEQ
  have JREQ_s18 : REQ 39 234 28 s18 := REQ_fm Fs18 (by decide) jREQ
  have JSEQ_s18 : SEQ s18 := SEQ_fm Fs18 (by decide) jSEQ
  have JARJ_s18 : ARJ s18 := ARJ_fm Fs18 ⟨by decide +kernel, by decide +kernel, by decide +kernel, by decide +kernel, by decide +kernel, by decide +kernel, by decide +kernel, by decide +kernel⟩ jARJ
  have JPTJ_s18 : PTJ s18 := PTJ_fm Fs18 (by decide +kernel) jPTJ
  have ws18_0 : iI s18 0 = iI s 0 := fm_iq Fs18 rfl
  have ws18_74 : iI s18 74 = iI s 74 := fm_iq Fs18 rfl
  have ws18_9 : iI s18 9 = iI s 9 := fm_iq Fs18 rfl
  have ws18_90 : iI s18 90 = iI s 90 := fm_iq Fs18 rfl
  have ws18_20 : iI s18 20 = iI s 20 := fm_iq Fs18 rfl
  have ws18_98 : iI s18 98 = iI s 98 := fm_iq Fs18 rfl
  have ws18_28 : iI s18 28 = iI s 28 := fm_iq Fs18 rfl
  have ws18_97 : iI s18 97 = iI s 97 := fm_iq Fs18 rfl
  have ws18_32 : iI s18 32 = iI s 32 := fm_iq Fs18 rfl
  have ws18_99 : iI s18 99 = iI s 99 := fm_iq Fs18 rfl
  have ws18_70 : iI s18 70 = iI s 70 := fm_iq Fs18 rfl
  have ws18_107 : iI s18 107 = iI s 107 := fm_iq Fs18 rfl
  have ws18_12 : iI s18 12 = iI s 12 := fm_iq Fs18 rfl
  have ws18_83 : iI s18 83 = iI s 83 := fm_iq Fs18 rfl
  have ws18_12 : iI s18 12 = iI s 12 := fm_iq Fs18 rfl
  have ws18_89 : iI s18 89 = iI s 89 := fm_iq Fs18 rfl
  show WS k 867 [(0, .ref q1), (1, .ref (A 0)), (2, .ref (A 179)), (3, .ref (A 517)), (4, .int (Int32.ofInt i))] [.int (Int32.ofInt e19)] (Wd A dT s18) (ce + 1) (sl + 6)
  refine z_store X (lv' := [(5, .int (Int32.ofInt e19)), (0, .ref q1), (1, .ref (A 0)), (2, .ref (A 179)), (3, .ref (A 517)), (4, .int (Int32.ofInt i))]) rfl (by decide) (fun _ h => h) (z_aload_n X (x := A 179) rfl (List.Mem.tail _ (List.Mem.tail _ (List.Mem.tail _ (List.Mem.head _)))) (z_aload_n X (x := q1) rfl (List.Mem.tail _ (List.Mem.head _)) (z_load X (x := i) rfl (List.Mem.tail _ (List.Mem.tail _ (List.Mem.tail _ (List.Mem.tail _ (List.Mem.tail _ (List.Mem.head _)))))) (z_const X rfl (z_add X rfl (z_sld X S hL rfl (show 0 ≤ (i + 1) ∧ (i + 1) < (L : Int) by first | exact sx_in hi (by decide) | omega) ?_))))))
  have sr20 : rng (sc xs (i + 1)) := sc_rng
  refine z_callV X 179 (rm := rmN 243) (As := [.int (Int32.ofInt (sc xs (i + 1)))]) (st := []) rfl rfl (by decide) rfl (by rw [E.1, E.2.1, E.2.2.1]; exact k_shorts G Is18 (by first | exact ⟨sr20.1, sr20.2⟩ | omega)) ⟨by rw [E.2.2.2]; exact (show 7 + 1 ≤ 2048 from oq_4e6106eb), by rw [E.2.2.2]; exact (show 8 + (7 + 11) + 122 ≤ 84000 from oq_f75bb075), by rw [E.2.2.2]; exact (show (ce + 1) + 0 ≤ 601024 by omega), by rw [E.2.2.2]; exact (show (sl + 6) + 0 ≤ 7293034 by omega)⟩ (Nat.le_of_ble_eq_true rfl) (fun vv s21 hq => ?_) (fun ee s21 hq => ?_)
  rotate_left
  · obtain ⟨Is21, Fs21, e22, hv, hrs21, hps21⟩ := hq; cases hv
  obtain ⟨Is21, Fs21, e22, hv, hrs21, hps21⟩ := hq
  cases hv
  have JRLx_s21 : RLx s21 := RLx_fm Fs21 (by decide) JRLx_s18
  have JFEQ_s21 : FEQ s21 := FEQ_fm Fs21 (by decide) JFEQ_s18
  have JREQ_s21 : REQ 39 234 28 s21 := REQ_fm Fs21 (by decide) JREQ_s18
  have JSEQ_s21 : SEQ s21 := SEQ_fm Fs21 (by decide) JSEQ_s18
  have JARJ_s21 : ARJ s21 := ARJ_fm Fs21 ⟨by decide +kernel, by decide +kernel, by decide +kernel, by decide +kernel, by decide +kernel, by decide +kernel, by decide +kernel, by decide +kernel⟩ JARJ_s18
  have JPTJ_s21 : PTJ s21 := PTJ_fm Fs21 (by decide +kernel) JPTJ_s18
  have ws21_0 : iI s21 0 = iI s18 0 := fm_iq Fs21 rfl
  have ws21_74 : iI s21 74 = iI s18 74 := fm_iq Fs21 rfl
  have ws21_9 : iI s21 9 = iI s18 9 := fm_iq Fs21 rfl
  have ws21_90 : iI s21 90 = iI s18 90 := fm_iq Fs21 rfl
  have ws21_20 : iI s21 20 = iI s18 20 := fm_iq Fs21 rfl
  have ws21_98 : iI s21 98 = iI s18 98 := fm_iq Fs21 rfl
  have ws21_28 : iI s21 28 = iI s18 28 := fm_iq Fs21 rfl
  have ws21_97 : iI s21 97 = iI s18 97 := fm_iq Fs21 rfl
  have ws21_32 : iI s21 32 = iI s18 32 := fm_iq Fs21 rfl
  have ws21_99 : iI s21 99 = iI s18 99 := fm_iq Fs21 rfl
  have ws21_70 : iI s21 70 = iI s18 70 := fm_iq Fs21 rfl
  have ws21_107 : iI s21 107 = iI s18 107 := fm_iq Fs21 rfl
  have ws21_12 : iI s21 12 = iI s18 12 := fm_iq Fs21 rfl
  have ws21_83 : iI s21 83 = iI s18 83 := fm_iq Fs21 rfl
  have ws21_12 : iI s21 12 = iI s18 12 := fm_iq Fs21 rfl
  have ws21_89 : iI s21 89 = iI s18 89 := fm_iq Fs21 rfl
  have wos21 : iO s21 = iO s18 := fm_o Fs21 (by decide)
  show WS k 879 [(5, .int (Int32.ofInt e19)), (0, .ref q1), (1, .ref (A 0)), (2, .ref (A 179)), (3, .ref (A 517)), (4, .int (Int32.ofInt i))] [.int (Int32.ofInt e22)] (Wd A dT s21) (ce + 1) (sl + 6)
  refine z_store X (lv' := [(6, .int (Int32.ofInt e22)), (5, .int (Int32.ofInt e19)), (0, .ref q1), (1, .ref (A 0)), (2, .ref (A 179)), (3, .ref (A 517)), (4, .int (Int32.ofInt i))]) rfl (by decide) (fun _ h => h) (z_goto X (t := 1866) rfl rfl (w_widen (ce' := ce + 29) (sl' := sl + 222) (by first | exact Nat.le_add_right _ _ | exact Nat.add_le_add_left (by decide) _ | omega) (by first | exact Nat.le_add_right _ _ | exact Nat.add_le_add_left (by decide) _ | omega) ?_))
  exact WS_lv (lv := [(0, .ref q1), (1, .ref (A 0)), (2, .ref (A 179)), (3, .ref (A 517)), (4, .int (Int32.ofInt i))]) (List.forall_mem_cons.mpr ⟨(List.Mem.tail _ (List.Mem.tail _ (List.Mem.head _))), (List.forall_mem_cons.mpr ⟨(List.Mem.tail _ (List.Mem.tail _ (List.Mem.tail _ (List.Mem.head _)))), (List.forall_mem_cons.mpr ⟨(List.Mem.tail _ (List.Mem.tail _ (List.Mem.tail _ (List.Mem.tail _ (List.Mem.head _))))), (List.forall_mem_cons.mpr ⟨(List.Mem.tail _ (List.Mem.tail _ (List.Mem.tail _ (List.Mem.tail _ (List.Mem.tail _ (List.Mem.head _)))))), (List.forall_mem_cons.mpr ⟨(List.Mem.tail _ (List.Mem.tail _ (List.Mem.tail _ (List.Mem.tail _ (List.Mem.tail _ (List.Mem.tail _ (List.Mem.head _))))))), (fun q h => absurd h List.not_mem_nil)⟩)⟩)⟩)⟩)⟩) (hk A _ Is21 JRLx_s21 JFEQ_s21 JREQ_s21 JSEQ_s21 JARJ_s21 JPTJ_s21 (by first | exact oq_f34933ba ws21_89 ws18_89 p1 b16.1 | omega) (by first | exact oq_d7ce4408 ws21_12 ws18_12 p2 | omega) (by first | exact oq_5bcdc35f ws21_74 ws21_0 ws18_74 ws18_0 p3 | omega) (by first | exact oq_5bcdc35f ws21_90 ws21_9 ws18_90 ws18_9 p4 | omega) (by first | exact oq_5bcdc35f ws21_98 ws21_20 ws18_98 ws18_20 p5 | omega) (by first | exact oq_5bcdc35f ws21_97 ws21_28 ws18_97 ws18_28 p6 | omega) (by first | exact oq_5bcdc35f ws21_99 ws21_32 ws18_99 ws18_32 p7 | omega) (by first | exact oq_5bcdc35f ws21_107 ws21_70 ws18_107 ws18_70 p8 | omega) (by first | exact oq_5bc06b03 ws21_83 ws21_12 ws18_83 p9 ws18_12 | omega))
theorem lc_16 (G : GX l s0 D tys a0 dT) (GR : RS0 s0) (SF : SF0 s0) (GT : TXs0 s0) (GW : TXw0 s0) {k : kx_T} (X : AX k 350 dT) (E : kL k = l ∧ kS0 k = s0 ∧ kD k = D ∧ kR k = room_1) {q1 L : Nat} {xs : Nat → Int32} (S : SX k q1 L xs) (hL : L ≤ 3072) (I : Bd s) (jR : RLx s) (jFEQ : FEQ s) (jREQ : REQ 39 234 28 s) (jSEQ : SEQ s) (jARJ : ARJ s) (jPTJ : PTJ s) (p1 : iI s 89 = 1) (p2 : iI s 12 ≤ 8) (p3 : iI s 0 = iI s 74) (p4 : iI s 9 = iI s 90) (p5 : iI s 20 = iI s 98) (p6 : iI s 28 = iI s 97) (p7 : iI s 32 = iI s 99) (p8 : iI s 70 = iI s 107) (p9 : iI s 12 = iI s 83) {i : Int} (hi : 0 ≤ i ∧ i + 6 ≤ (L : Int)) {ce sl : Nat} (hce : ce + 29 ≤ 601024) (hsl : sl + 222 ≤ 7293034) (hk : ∀ (A : Nat → Nat) (t : PS), Bd t → RLx t → FEQ t → REQ 39 234 28 t → SEQ t → ARJ t → PTJ t → iI t 89 = 1 → iI t 12 ≤ 8 → iI t 0 = iI t 74 → iI t 9 = iI t 90 → iI t 20 = iI t 98 → iI t 28 = iI t 97 → iI t 32 = iI t 99 → iI t 70 = iI t 107 → iI t 12 = iI t 83 → WS k 1866 [(0, .ref q1), (1, .ref (A 0)), (2, .ref (A 179)), (3, .ref (A 517)), (4, .int (Int32.ofInt i))] [] (Wd A dT t) (ce + 29) (sl + 222)) : WS k 884 [(0, .ref q1), (1, .ref (A 0)), (2, .ref (A 179)), (3, .ref (A 517)), (4, .int (Int32.ofInt i))] [] (Wd A dT s) ce sl := by
  have F : Fm [21, 73, 95] [1460] s s := fm_rf _ _ s
  have b1 := bi_0 I
  have b2 := bi_74 I
  have b3 := bi_9 I
  have b4 := bi_90 I
  have b5 := bi_20 I
  have b6 := bi_98 I
  have b7 := bi_28 I
  have b8 := bi_97 I
  have b9 := bi_32 I
  have b10 := bi_99 I
  have b11 := bi_70 I
  have b12 := bi_107 I
  have b13 := bi_12 I
  have b14 := bi_83 I
  have b15 := bi_12 I
  have b16 := bi_89 I
  refine z_aload_n X (x := A 0) rfl (List.Mem.tail _ (List.Mem.head _)) (z_aload_n X (x := q1) rfl (List.Mem.head _) (z_load X (x := i) rfl (List.Mem.tail _ (List.Mem.tail _ (List.Mem.tail _ (List.Mem.tail _ (List.Mem.head _))))) (z_const X rfl (z_add X rfl (z_sld X S hL rfl (show 0 ≤ (i + 1) ∧ (i + 1) < (L : Int) by first | exact sx_in hi (by decide) | omega) ?_)))))
  have sr17 : rng (sc xs (i + 1)) := sc_rng
  refine z_aload_n X (x := A 517) rfl (List.Mem.tail _ (List.Mem.tail _ (List.Mem.tail _ (List.Mem.head _)))) (z_callL X (rm := rmN 328) (As := [.ref (A 0), .int (Int32.ofInt (sc xs (i + 1))), .ref (A 517)]) (st := []) rfl (by decide) rfl (by rw [E.1, E.2.1, E.2.2.1]; exact lw_length G I (by omega)) ⟨by rw [E.2.2.2]; exact (show 8 + 1 ≤ 2048 by decide), by rw [E.2.2.2]; exact (show 8 + (4 + 11) + 145 ≤ 84000 by decide), by rw [E.2.2.2]; exact (show ce + 1 ≤ 601024 by first | exact rmo_1 hce (by decide) | exact rmo_2 hce (by decide) | omega), by rw [E.2.2.2]; exact (show sl + 6 ≤ 7293034 by first | exact rmo_1 hsl (by decide) | exact rmo_2 hsl (by decide) | omega)⟩ (Nat.le_of_ble_eq_true rfl) (fun vv A s18 hA2 hq => ?_) (fun ee A s18 hA2 hq => ?_))
  rotate_left
  · obtain ⟨Is18, Fs18, e19, hv, hrs18, hps18⟩ := hq; cases hv
  obtain ⟨Is18, Fs18, e19, hv, hrs18, hps18⟩ := hq
  cases hv
  rw [← hA2 0 (by decide)]
  rw [← hA2 179 (by decide)]
  rw [← hA2 517 (by decide)]
  have JRLx_s18 : RLx s18 := RLx_fm Fs18 (by decide) jR
  have JFEQ_s18 : FEQ s18 := FEQ_fm Fs18 (by decide) jFEQ
  have JREQ_s18 : REQ 39 234 28 s18 := REQ_fm Fs18 (by decide) jREQ
  have JSEQ_s18 : SEQ s18 := SEQ_fm Fs18 (by decide) jSEQ
  have JARJ_s18 : ARJ s18 := ARJ_fm Fs18 ⟨by decide +kernel, by decide +kernel, by decide +kernel, by decide +kernel, by decide +kernel, by decide +kernel, by decide +kernel, by decide +kernel⟩ jARJ
  have JPTJ_s18 : PTJ s18 := PTJ_fm Fs18 (by decide +kernel) jPTJ
  have ws18_0 : iI s18 0 = iI s 0 := fm_iq Fs18 rfl
  have ws18_74 : iI s18 74 = iI s 74 := fm_iq Fs18 rfl
  have ws18_9 : iI s18 9 = iI s 9 := fm_iq Fs18 rfl
  have ws18_90 : iI s18 90 = iI s 90 := fm_iq Fs18 rfl
  have ws18_20 : iI s18 20 = iI s 20 := fm_iq Fs18 rfl
  have ws18_98 : iI s18 98 = iI s 98 := fm_iq Fs18 rfl
  have ws18_28 : iI s18 28 = iI s 28 := fm_iq Fs18 rfl
  have ws18_97 : iI s18 97 = iI s 97 := fm_iq Fs18 rfl
  have ws18_32 : iI s18 32 = iI s 32 := fm_iq Fs18 rfl
  have ws18_99 : iI s18 99 = iI s 99 := fm_iq Fs18 rfl
  have ws18_70 : iI s18 70 = iI s 70 := fm_iq Fs18 rfl
  have ws18_107 : iI s18 107 = iI s 107 := fm_iq Fs18 rfl
  have ws18_12 : iI s18 12 = iI s 12 := fm_iq Fs18 rfl
  have ws18_83 : iI s18 83 = iI s 83 := fm_iq Fs18 rfl
  have ws18_12 : iI s18 12 = iI s 12 := fm_iq Fs18 rfl
  have ws18_89 : iI s18 89 = iI s 89 := fm_iq Fs18 rfl
  show WS k 895 [(0, .ref q1), (1, .ref (A 0)), (2, .ref (A 179)), (3, .ref (A 517)), (4, .int (Int32.ofInt i))] [.int (Int32.ofInt e19)] (Wd A dT s18) (ce + 1) (sl + 6)
  refine z_store X (lv' := [(5, .int (Int32.ofInt e19)), (0, .ref q1), (1, .ref (A 0)), (2, .ref (A 179)), (3, .ref (A 517)), (4, .int (Int32.ofInt i))]) rfl (by decide) (fun _ h => h) (z_aload_n X (x := A 179) rfl (List.Mem.tail _ (List.Mem.tail _ (List.Mem.tail _ (List.Mem.head _)))) (z_aload_n X (x := q1) rfl (List.Mem.tail _ (List.Mem.head _)) (z_load X (x := i) rfl (List.Mem.tail _ (List.Mem.tail _ (List.Mem.tail _ (List.Mem.tail _ (List.Mem.tail _ (List.Mem.head _)))))) (z_const X rfl (z_add X rfl (z_sld X S hL rfl (show 0 ≤ (i + 1) ∧ (i + 1) < (L : Int) by first | exact sx_in hi (by decide) | omega) ?_))))))
  have sr20 : rng (sc xs (i + 1)) := sc_rng
  refine z_callV X 179 (rm := rmN 244) (As := [.int (Int32.ofInt (sc xs (i + 1)))]) (st := []) rfl rfl (by decide) rfl (by rw [E.1, E.2.1, E.2.2.1]; exact k_length G Is18 (by first | exact ⟨sr20.1, sr20.2⟩ | omega)) ⟨by rw [E.2.2.2]; exact (show 7 + 1 ≤ 2048 from oq_4e6106eb), by rw [E.2.2.2]; exact (show 8 + (3 + 11) + 122 ≤ 84000 from oq_38d194b9), by rw [E.2.2.2]; exact (show (ce + 1) + 0 ≤ 601024 by omega), by rw [E.2.2.2]; exact (show (sl + 6) + 0 ≤ 7293034 by omega)⟩ (Nat.le_of_ble_eq_true rfl) (fun vv s21 hq => ?_) (fun ee s21 hq => ?_)
  rotate_left
  · obtain ⟨Is21, Fs21, e22, hv, hrs21, hps21⟩ := hq; cases hv
  obtain ⟨Is21, Fs21, e22, hv, hrs21, hps21⟩ := hq
  cases hv
  have JRLx_s21 : RLx s21 := RLx_fm Fs21 (by decide) JRLx_s18
  have JFEQ_s21 : FEQ s21 := FEQ_fm Fs21 (by decide) JFEQ_s18
  have JREQ_s21 : REQ 39 234 28 s21 := REQ_fm Fs21 (by decide) JREQ_s18
  have JSEQ_s21 : SEQ s21 := SEQ_fm Fs21 (by decide) JSEQ_s18
  have JARJ_s21 : ARJ s21 := ARJ_fm Fs21 ⟨by decide +kernel, by decide +kernel, by decide +kernel, by decide +kernel, by decide +kernel, by decide +kernel, by decide +kernel, by decide +kernel⟩ JARJ_s18
  have JPTJ_s21 : PTJ s21 := PTJ_fm Fs21 (by decide +kernel) JPTJ_s18
  have ws21_0 : iI s21 0 = iI s18 0 := fm_iq Fs21 rfl
  have ws21_74 : iI s21 74 = iI s18 74 := fm_iq Fs21 rfl
  have ws21_9 : iI s21 9 = iI s18 9 := fm_iq Fs21 rfl
  have ws21_90 : iI s21 90 = iI s18 90 := fm_iq Fs21 rfl
  have ws21_20 : iI s21 20 = iI s18 20 := fm_iq Fs21 rfl
  have ws21_98 : iI s21 98 = iI s18 98 := fm_iq Fs21 rfl
  have ws21_28 : iI s21 28 = iI s18 28 := fm_iq Fs21 rfl
  have ws21_97 : iI s21 97 = iI s18 97 := fm_iq Fs21 rfl
  have ws21_32 : iI s21 32 = iI s18 32 := fm_iq Fs21 rfl
  have ws21_99 : iI s21 99 = iI s18 99 := fm_iq Fs21 rfl
  have ws21_70 : iI s21 70 = iI s18 70 := fm_iq Fs21 rfl
  have ws21_107 : iI s21 107 = iI s18 107 := fm_iq Fs21 rfl
  have ws21_12 : iI s21 12 = iI s18 12 := fm_iq Fs21 rfl
  have ws21_83 : iI s21 83 = iI s18 83 := fm_iq Fs21 rfl
  have ws21_12 : iI s21 12 = iI s18 12 := fm_iq Fs21 rfl
  have ws21_89 : iI s21 89 = iI s18 89 := fm_iq Fs21 rfl
  have wos21 : iO s21 = iO s18 := fm_o Fs21 (by decide)
  show WS k 907 [(5, .int (Int32.ofInt e19)), (0, .ref q1), (1, .ref (A 0)), (2, .ref (A 179)), (3, .ref (A 517)), (4, .int (Int32.ofInt i))] [.int (Int32.ofInt e22)] (Wd A dT s21) (ce + 1) (sl + 6)
  refine z_store X (lv' := [(6, .int (Int32.ofInt e22)), (5, .int (Int32.ofInt e19)), (0, .ref q1), (1, .ref (A 0)), (2, .ref (A 179)), (3, .ref (A 517)), (4, .int (Int32.ofInt i))]) rfl (by decide) (fun _ h => h) (z_goto X (t := 1866) rfl rfl (w_widen (ce' := ce + 29) (sl' := sl + 222) (by first | exact Nat.le_add_right _ _ | exact Nat.add_le_add_left (by decide) _ | omega) (by first | exact Nat.le_add_right _ _ | exact Nat.add_le_add_left (by decide) _ | omega) ?_))
  exact WS_lv (lv := [(0, .ref q1), (1, .ref (A 0)), (2, .ref (A 179)), (3, .ref (A 517)), (4, .int (Int32.ofInt i))]) (List.forall_mem_cons.mpr ⟨(List.Mem.tail _ (List.Mem.tail _ (List.Mem.head _))), (List.forall_mem_cons.mpr ⟨(List.Mem.tail _ (List.Mem.tail _ (List.Mem.tail _ (List.Mem.head _)))), (List.forall_mem_cons.mpr ⟨(List.Mem.tail _ (List.Mem.tail _ (List.Mem.tail _ (List.Mem.tail _ (List.Mem.head _))))), (List.forall_mem_cons.mpr ⟨(List.Mem.tail _ (List.Mem.tail _ (List.Mem.tail _ (List.Mem.tail _ (List.Mem.tail _ (List.Mem.head _)))))), (List.forall_mem_cons.mpr ⟨(List.Mem.tail _ (List.Mem.tail _ (List.Mem.tail _ (List.Mem.tail _ (List.Mem.tail _ (List.Mem.tail _ (List.Mem.head _))))))), (fun q h => absurd h List.not_mem_nil)⟩)⟩)⟩)⟩)⟩) (hk A _ Is21 JRLx_s21 JFEQ_s21 JREQ_s21 JSEQ_s21 JARJ_s21 JPTJ_s21 (by first | exact oq_f34933ba ws21_89 ws18_89 p1 b16.1 | omega) (by first | exact oq_d7ce4408 ws21_12 ws18_12 p2 | omega) (by first | exact oq_5bcdc35f ws21_74 ws21_0 ws18_74 ws18_0 p3 | omega) (by first | exact oq_5bcdc35f ws21_90 ws21_9 ws18_90 ws18_9 p4 | omega) (by first | exact oq_5bcdc35f ws21_98 ws21_20 ws18_98 ws18_20 p5 | omega) (by first | exact oq_5bcdc35f ws21_97 ws21_28 ws18_97 ws18_28 p6 | omega) (by first | exact oq_5bcdc35f ws21_99 ws21_32 ws18_99 ws18_32 p7 | omega) (by first | exact oq_5bcdc35f ws21_107 ws21_70 ws18_107 ws18_70 p8 | omega) (by first | exact oq_5bc06b03 ws21_83 ws21_12 ws18_83 p9 ws18_12 | omega))
theorem lc_17 (G : GX l s0 D tys a0 dT) (GR : RS0 s0) (SF : SF0 s0) (GT : TXs0 s0) (GW : TXw0 s0) {k : kx_T} (X : AX k 350 dT) (E : kL k = l ∧ kS0 k = s0 ∧ kD k = D ∧ kR k = room_1) {q1 L : Nat} {xs : Nat → Int32} (S : SX k q1 L xs) (hL : L ≤ 3072) (I : Bd s) (jR : RLx s) (jFEQ : FEQ s) (jREQ : REQ 39 234 28 s) (jSEQ : SEQ s) (jARJ : ARJ s) (jPTJ : PTJ s) (p1 : iI s 89 = 1) (p2 : iI s 12 ≤ 8) (p3 : iI s 0 = iI s 74) (p4 : iI s 9 = iI s 90) (p5 : iI s 20 = iI s 98) (p6 : iI s 28 = iI s 97) (p7 : iI s 32 = iI s 99) (p8 : iI s 70 = iI s 107) (p9 : iI s 12 = iI s 83) {i : Int} (hi : 0 ≤ i ∧ i + 6 ≤ (L : Int)) {ce sl : Nat} (hce : ce + 29 ≤ 601024) (hsl : sl + 222 ≤ 7293034) (hk : ∀ (A : Nat → Nat) (t : PS), Bd t → RLx t → FEQ t → REQ 39 234 28 t → SEQ t → ARJ t → PTJ t → iI t 89 = 1 → iI t 12 ≤ 8 → iI t 0 = iI t 74 → iI t 9 = iI t 90 → iI t 20 = iI t 98 → iI t 28 = iI t 97 → iI t 32 = iI t 99 → iI t 70 = iI t 107 → iI t 12 = iI t 83 → WS k 1866 [(0, .ref q1), (1, .ref (A 0)), (2, .ref (A 179)), (3, .ref (A 517)), (4, .int (Int32.ofInt i))] [] (Wd A dT t) (ce + 29) (sl + 222)) : WS k 912 [(0, .ref q1), (1, .ref (A 0)), (2, .ref (A 179)), (3, .ref (A 517)), (4, .int (Int32.ofInt i))] [] (Wd A dT s) ce sl := by
  have F : Fm [73] [1460, 202, 204, 205, 206, 207, 208, 209, 210, 211, 212, 213, 214, 215, 216, 217, 218, 219, 220, 221, 222, 223, 224, 225, 226, 227, 203] s s := fm_rf _ _ s
  have b1 := bi_0 I
  have b2 := bi_74 I
  have b3 := bi_9 I
  have b4 := bi_90 I
  have b5 := bi_20 I
  have b6 := bi_98 I
  have b7 := bi_28 I
  have b8 := bi_97 I
  have b9 := bi_32 I
  have b10 := bi_99 I
  have b11 := bi_70 I
  have b12 := bi_107 I
  have b13 := bi_12 I
  have b14 := bi_83 I
  have b15 := bi_12 I
  have b16 := bi_89 I
  refine z_aload_n X (x := A 0) rfl (List.Mem.tail _ (List.Mem.head _)) (z_aload_n X (x := q1) rfl (List.Mem.head _) (z_load X (x := i) rfl (List.Mem.tail _ (List.Mem.tail _ (List.Mem.tail _ (List.Mem.tail _ (List.Mem.head _))))) (z_const X rfl (z_add X rfl (z_sld X S hL rfl (show 0 ≤ (i + 1) ∧ (i + 1) < (L : Int) by first | exact sx_in hi (by decide) | omega) ?_)))))
  have sr17 : rng (sc xs (i + 1)) := sc_rng
  refine z_aload_n X (x := A 517) rfl (List.Mem.tail _ (List.Mem.tail _ (List.Mem.tail _ (List.Mem.head _)))) (z_callL X (rm := rmN 329) (As := [.ref (A 0), .int (Int32.ofInt (sc xs (i + 1))), .ref (A 517)]) (st := []) rfl (by decide) rfl (by rw [E.1, E.2.1, E.2.2.1]; exact lw_edge G I (by omega)) ⟨by rw [E.2.2.2]; exact (show 9 + 1 ≤ 2048 by decide), by rw [E.2.2.2]; exact (show 8 + (4 + 11) + 173 ≤ 84000 by decide), by rw [E.2.2.2]; exact (show ce + 1 ≤ 601024 by first | exact rmo_1 hce (by decide) | exact rmo_2 hce (by decide) | omega), by rw [E.2.2.2]; exact (show sl + 6 ≤ 7293034 by first | exact rmo_1 hsl (by decide) | exact rmo_2 hsl (by decide) | omega)⟩ (Nat.le_of_ble_eq_true rfl) (fun vv A s18 hA2 hq => ?_) (fun ee A s18 hA2 hq => ?_))
  rotate_left
  · obtain ⟨Is18, Fs18, e19, hv, hrs18, hps18⟩ := hq; cases hv
  obtain ⟨Is18, Fs18, e19, hv, hrs18, hps18⟩ := hq
  cases hv
  rw [← hA2 0 (by decide)]
  rw [← hA2 179 (by decide)]
  rw [← hA2 517 (by decide)]
  have JRLx_s18 : RLx s18 := RLx_fm Fs18 (by decide) jR
  have JFEQ_s18 : FEQ s18 := FEQ_fm Fs18 (by decide) jFEQ
  have JREQ_s18 : REQ 39 234 28 s18 := REQ_fm Fs18 (by decide) jREQ
  have JSEQ_s18 : SEQ s18 := SEQ_fm Fs18 (by decide) jSEQ
  have JARJ_s18 : ARJ s18 := ARJ_fm Fs18 ⟨by decide +kernel, by decide +kernel, by decide +kernel, by decide +kernel, by decide +kernel, by decide +kernel, by decide +kernel, by decide +kernel⟩ jARJ
  have JPTJ_s18 : PTJ s18 := PTJ_fm Fs18 (by decide +kernel) jPTJ
  have ws18_0 : iI s18 0 = iI s 0 := fm_iq Fs18 rfl
  have ws18_74 : iI s18 74 = iI s 74 := fm_iq Fs18 rfl
  have ws18_9 : iI s18 9 = iI s 9 := fm_iq Fs18 rfl
  have ws18_90 : iI s18 90 = iI s 90 := fm_iq Fs18 rfl
  have ws18_20 : iI s18 20 = iI s 20 := fm_iq Fs18 rfl
  have ws18_98 : iI s18 98 = iI s 98 := fm_iq Fs18 rfl
  have ws18_28 : iI s18 28 = iI s 28 := fm_iq Fs18 rfl
  have ws18_97 : iI s18 97 = iI s 97 := fm_iq Fs18 rfl
  have ws18_32 : iI s18 32 = iI s 32 := fm_iq Fs18 rfl
  have ws18_99 : iI s18 99 = iI s 99 := fm_iq Fs18 rfl
  have ws18_70 : iI s18 70 = iI s 70 := fm_iq Fs18 rfl
  have ws18_107 : iI s18 107 = iI s 107 := fm_iq Fs18 rfl
  have ws18_12 : iI s18 12 = iI s 12 := fm_iq Fs18 rfl
  have ws18_83 : iI s18 83 = iI s 83 := fm_iq Fs18 rfl
  have ws18_12 : iI s18 12 = iI s 12 := fm_iq Fs18 rfl
  have ws18_89 : iI s18 89 = iI s 89 := fm_iq Fs18 rfl
  show WS k 923 [(0, .ref q1), (1, .ref (A 0)), (2, .ref (A 179)), (3, .ref (A 517)), (4, .int (Int32.ofInt i))] [.int (Int32.ofInt e19)] (Wd A dT s18) (ce + 1) (sl + 6)
  refine z_store X (lv' := [(5, .int (Int32.ofInt e19)), (0, .ref q1), (1, .ref (A 0)), (2, .ref (A 179)), (3, .ref (A 517)), (4, .int (Int32.ofInt i))]) rfl (by decide) (fun _ h => h) (z_aload_n X (x := A 179) rfl (List.Mem.tail _ (List.Mem.tail _ (List.Mem.tail _ (List.Mem.head _)))) (z_aload_n X (x := q1) rfl (List.Mem.tail _ (List.Mem.head _)) (z_load X (x := i) rfl (List.Mem.tail _ (List.Mem.tail _ (List.Mem.tail _ (List.Mem.tail _ (List.Mem.tail _ (List.Mem.head _)))))) (z_const X rfl (z_add X rfl (z_sld X S hL rfl (show 0 ≤ (i + 1) ∧ (i + 1) < (L : Int) by first | exact sx_in hi (by decide) | omega) ?_))))))
  have sr20 : rng (sc xs (i + 1)) := sc_rng
  refine z_callV X 179 (rm := rmN 246) (As := [.int (Int32.ofInt (sc xs (i + 1)))]) (st := []) rfl rfl (by decide) rfl (by rw [E.1, E.2.1, E.2.2.1]; exact k_edge G Is18 JRLx_s18 (by first | exact ⟨sr20.1, sr20.2⟩ | omega)) ⟨by rw [E.2.2.2]; exact (show 11 + 1 ≤ 2048 from oq_dd1cdbfa), by rw [E.2.2.2]; exact (show 8 + (6 + 11) + 212 ≤ 84000 from oq_c1432001), by rw [E.2.2.2]; exact (show (ce + 1) + 0 ≤ 601024 by omega), by rw [E.2.2.2]; exact (show (sl + 6) + 0 ≤ 7293034 by omega)⟩ (Nat.le_of_ble_eq_true rfl) (fun vv s21 hq => ?_) (fun ee s21 hq => ?_)
  rotate_left
  · obtain ⟨Is21, Fs21, JRLx_s21, e22, hv, hrs21, hps21⟩ := hq; cases hv
  obtain ⟨Is21, Fs21, JRLx_s21, e22, hv, hrs21, hps21⟩ := hq
  cases hv
  have JRLx_s21 : RLx s21 := RLx_fm Fs21 (by decide) JRLx_s18
  have JFEQ_s21 : FEQ s21 := FEQ_fm Fs21 (by decide) JFEQ_s18
  have JREQ_s21 : REQ 39 234 28 s21 := REQ_fm Fs21 (by decide) JREQ_s18
  have JSEQ_s21 : SEQ s21 := SEQ_fm Fs21 (by decide) JSEQ_s18
  have JARJ_s21 : ARJ s21 := ARJ_fm Fs21 ⟨by decide +kernel, by decide +kernel, by decide +kernel, by decide +kernel, by decide +kernel, by decide +kernel, by decide +kernel, by decide +kernel⟩ JARJ_s18
  have JPTJ_s21 : PTJ s21 := PTJ_fm Fs21 (by decide +kernel) JPTJ_s18
  have ws21_0 : iI s21 0 = iI s18 0 := fm_iq Fs21 rfl
  have ws21_74 : iI s21 74 = iI s18 74 := fm_iq Fs21 rfl
  have ws21_9 : iI s21 9 = iI s18 9 := fm_iq Fs21 rfl
  have ws21_90 : iI s21 90 = iI s18 90 := fm_iq Fs21 rfl
  have ws21_20 : iI s21 20 = iI s18 20 := fm_iq Fs21 rfl
  have ws21_98 : iI s21 98 = iI s18 98 := fm_iq Fs21 rfl
  have ws21_28 : iI s21 28 = iI s18 28 := fm_iq Fs21 rfl
  have ws21_97 : iI s21 97 = iI s18 97 := fm_iq Fs21 rfl
  have ws21_32 : iI s21 32 = iI s18 32 := fm_iq Fs21 rfl
  have ws21_99 : iI s21 99 = iI s18 99 := fm_iq Fs21 rfl
  have ws21_70 : iI s21 70 = iI s18 70 := fm_iq Fs21 rfl
  have ws21_107 : iI s21 107 = iI s18 107 := fm_iq Fs21 rfl
  have ws21_12 : iI s21 12 = iI s18 12 := fm_iq Fs21 rfl
  have ws21_83 : iI s21 83 = iI s18 83 := fm_iq Fs21 rfl
  have ws21_12 : iI s21 12 = iI s18 12 := fm_iq Fs21 rfl
  have ws21_89 : iI s21 89 = iI s18 89 := fm_iq Fs21 rfl
  have wos21 : iO s21 = iO s18 := fm_o Fs21 (by decide)
  show WS k 935 [(5, .int (Int32.ofInt e19)), (0, .ref q1), (1, .ref (A 0)), (2, .ref (A 179)), (3, .ref (A 517)), (4, .int (Int32.ofInt i))] [.int (Int32.ofInt e22)] (Wd A dT s21) (ce + 1) (sl + 6)
  refine z_store X (lv' := [(6, .int (Int32.ofInt e22)), (5, .int (Int32.ofInt e19)), (0, .ref q1), (1, .ref (A 0)), (2, .ref (A 179)), (3, .ref (A 517)), (4, .int (Int32.ofInt i))]) rfl (by decide) (fun _ h => h) (z_goto X (t := 1866) rfl rfl (w_widen (ce' := ce + 29) (sl' := sl + 222) (by first | exact Nat.le_add_right _ _ | exact Nat.add_le_add_left (by decide) _ | omega) (by first | exact Nat.le_add_right _ _ | exact Nat.add_le_add_left (by decide) _ | omega) ?_))
  exact WS_lv (lv := [(0, .ref q1), (1, .ref (A 0)), (2, .ref (A 179)), (3, .ref (A 517)), (4, .int (Int32.ofInt i))]) (List.forall_mem_cons.mpr ⟨(List.Mem.tail _ (List.Mem.tail _ (List.Mem.head _))), (List.forall_mem_cons.mpr ⟨(List.Mem.tail _ (List.Mem.tail _ (List.Mem.tail _ (List.Mem.head _)))), (List.forall_mem_cons.mpr ⟨(List.Mem.tail _ (List.Mem.tail _ (List.Mem.tail _ (List.Mem.tail _ (List.Mem.head _))))), (List.forall_mem_cons.mpr ⟨(List.Mem.tail _ (List.Mem.tail _ (List.Mem.tail _ (List.Mem.tail _ (List.Mem.tail _ (List.Mem.head _)))))), (List.forall_mem_cons.mpr ⟨(List.Mem.tail _ (List.Mem.tail _ (List.Mem.tail _ (List.Mem.tail _ (List.Mem.tail _ (List.Mem.tail _ (List.Mem.head _))))))), (fun q h => absurd h List.not_mem_nil)⟩)⟩)⟩)⟩)⟩) (hk A _ Is21 JRLx_s21 JFEQ_s21 JREQ_s21 JSEQ_s21 JARJ_s21 JPTJ_s21 (by first | exact oq_f34933ba ws21_89 ws18_89 p1 b16.1 | omega) (by first | exact oq_d7ce4408 ws21_12 ws18_12 p2 | omega) (by first | exact oq_5bcdc35f ws21_74 ws21_0 ws18_74 ws18_0 p3 | omega) (by first | exact oq_5bcdc35f ws21_90 ws21_9 ws18_90 ws18_9 p4 | omega) (by first | exact oq_5bcdc35f ws21_98 ws21_20 ws18_98 ws18_20 p5 | omega) (by first | exact oq_5bcdc35f ws21_97 ws21_28 ws18_97 ws18_28 p6 | omega) (by first | exact oq_5bcdc35f ws21_99 ws21_32 ws18_99 ws18_32 p7 | omega) (by first | exact oq_5bcdc35f ws21_107 ws21_70 ws18_107 ws18_70 p8 | omega) (by first | exact oq_5bc06b03 ws21_83 ws21_12 ws18_83 p9 ws18_12 | omega))
theorem lc_18 (G : GX l s0 D tys a0 dT) (GR : RS0 s0) (SF : SF0 s0) (GT : TXs0 s0) (GW : TXw0 s0) {k : kx_T} (X : AX k 350 dT) (E : kL k = l ∧ kS0 k = s0 ∧ kD k = D ∧ kR k = room_1) {q1 L : Nat} {xs : Nat → Int32} (S : SX k q1 L xs) (hL : L ≤ 3072) (I : Bd s) (jR : RLx s) (jFEQ : FEQ s) (jREQ : REQ 39 234 28 s) (jSEQ : SEQ s) (jARJ : ARJ s) (jPTJ : PTJ s) (p1 : iI s 89 = 1) (p2 : iI s 12 ≤ 8) (p3 : iI s 0 = iI s 74) (p4 : iI s 9 = iI s 90) (p5 : iI s 20 = iI s 98) (p6 : iI s 28 = iI s 97) (p7 : iI s 32 = iI s 99) (p8 : iI s 70 = iI s 107) (p9 : iI s 12 = iI s 83) {i : Int} (hi : 0 ≤ i ∧ i + 6 ≤ (L : Int)) {ce sl : Nat} (hce : ce + 29 ≤ 601024) (hsl : sl + 222 ≤ 7293034) (hk : ∀ (A : Nat → Nat) (t : PS), Bd t → RLx t → FEQ t → REQ 39 234 28 t → SEQ t → ARJ t → PTJ t → iI t 89 = 1 → iI t 12 ≤ 8 → iI t 0 = iI t 74 → iI t 9 = iI t 90 → iI t 20 = iI t 98 → iI t 28 = iI t 97 → iI t 32 = iI t 99 → iI t 70 = iI t 107 → iI t 12 = iI t 83 → WS k 1866 [(0, .ref q1), (1, .ref (A 0)), (2, .ref (A 179)), (3, .ref (A 517)), (4, .int (Int32.ofInt i))] [] (Wd A dT t) (ce + 29) (sl + 222)) : WS k 940 [(0, .ref q1), (1, .ref (A 0)), (2, .ref (A 179)), (3, .ref (A 517)), (4, .int (Int32.ofInt i))] [] (Wd A dT s) ce sl := by
  have F : Fm [22, 23, 24, 73, 77, 75, 78, 79, 80, 81] [33, 26, 27, 28, 29, 30, 31, 32, 20, 202, 204, 205, 206, 207, 208, 209, 210, 211, 212, 213, 214, 215, 216, 217, 218, 219, 220, 221, 222, 223, 224, 225, 226, 227, 203, 161, 230, 231, 232] s s := fm_rf _ _ s
  have b1 := bi_0 I
  have b2 := bi_74 I
  have b3 := bi_9 I
  have b4 := bi_90 I
  have b5 := bi_20 I
  have b6 := bi_98 I
  have b7 := bi_28 I
  have b8 := bi_97 I
  have b9 := bi_32 I
  have b10 := bi_99 I
  have b11 := bi_70 I
  have b12 := bi_107 I
  have b13 := bi_12 I
  have b14 := bi_83 I
  have b15 := bi_12 I
  have b16 := bi_89 I
  refine z_aload_n X (x := A 0) rfl (List.Mem.tail _ (List.Mem.head _)) (z_callV X 0 (rm := rmN 153) (As := []) (st := []) rfl rfl (by decide) rfl (by rw [E.1, E.2.1, E.2.2.1]; exact cs_holds G I ) ⟨by rw [E.2.2.2]; exact (show 11 + 1 ≤ 2048 from oq_dd1cdbfa), by rw [E.2.2.2]; exact (show 8 + (2 + 11) + 224 ≤ 84000 from oq_b95bb2bf), by rw [E.2.2.2]; exact (show ce + 0 ≤ 601024 by omega), by rw [E.2.2.2]; exact (show sl + 0 ≤ 7293034 by omega)⟩ (Nat.le_of_ble_eq_true rfl) (fun vv s17 hq => ?_) (fun ee s17 hq => ?_))
  rotate_left
  · obtain ⟨Is17, Fs17, e18, hv, hrs17, hps17⟩ := hq; cases hv
  obtain ⟨Is17, Fs17, e18, hv, hrs17, hps17⟩ := hq
  cases hv
  have JRLx_s17 : RLx s17 := RLx_fm Fs17 (by decide) jR
  have JFEQ_s17 : FEQ s17 := FEQ_fm Fs17 (by decide) jFEQ
  have JREQ_s17 : REQ 39 234 28 s17 := REQ_fm Fs17 (by decide) jREQ
  have JSEQ_s17 : SEQ s17 := SEQ_fm Fs17 (by decide) jSEQ
  have JARJ_s17 : ARJ s17 := ARJ_fm Fs17 ⟨by decide +kernel, by decide +kernel, by decide +kernel, by decide +kernel, by decide +kernel, by decide +kernel, by decide +kernel, by decide +kernel⟩ jARJ
  have JPTJ_s17 : PTJ s17 := PTJ_fm Fs17 (by decide +kernel) jPTJ
  have ws17_0 : iI s17 0 = iI s 0 := fm_iq Fs17 rfl
  have ws17_74 : iI s17 74 = iI s 74 := fm_iq Fs17 rfl
  have ws17_9 : iI s17 9 = iI s 9 := fm_iq Fs17 rfl
  have ws17_90 : iI s17 90 = iI s 90 := fm_iq Fs17 rfl
  have ws17_20 : iI s17 20 = iI s 20 := fm_iq Fs17 rfl
  have ws17_98 : iI s17 98 = iI s 98 := fm_iq Fs17 rfl
  have ws17_28 : iI s17 28 = iI s 28 := fm_iq Fs17 rfl
  have ws17_97 : iI s17 97 = iI s 97 := fm_iq Fs17 rfl
  have ws17_32 : iI s17 32 = iI s 32 := fm_iq Fs17 rfl
  have ws17_99 : iI s17 99 = iI s 99 := fm_iq Fs17 rfl
  have ws17_70 : iI s17 70 = iI s 70 := fm_iq Fs17 rfl
  have ws17_107 : iI s17 107 = iI s 107 := fm_iq Fs17 rfl
  have ws17_12 : iI s17 12 = iI s 12 := fm_iq Fs17 rfl
  have ws17_83 : iI s17 83 = iI s 83 := fm_iq Fs17 rfl
  have ws17_12 : iI s17 12 = iI s 12 := fm_iq Fs17 rfl
  have ws17_89 : iI s17 89 = iI s 89 := fm_iq Fs17 rfl
  have wos17 : iO s17 = iO s := fm_o Fs17 (by decide)
  show WS k 944 [(0, .ref q1), (1, .ref (A 0)), (2, .ref (A 179)), (3, .ref (A 517)), (4, .int (Int32.ofInt i))] [.int (Int32.ofInt e18)] (Wd A dT s17) ce sl
  refine w_pop X.1 (ax_d X (show cdA 350 944 = some (.pop, 1, 0, 0, 0) from rfl)) rfl (z_aload_n X (x := A 179) rfl (List.Mem.tail _ (List.Mem.tail _ (List.Mem.head _))) (z_callV X 179 (rm := rmN 247) (As := []) (st := []) rfl rfl (by decide) rfl (by rw [E.1, E.2.1, E.2.2.1]; exact k_holds G Is17 JRLx_s17 ) ⟨by rw [E.2.2.2]; exact (show 39 + 1 ≤ 2048 from oq_dead3895), by rw [E.2.2.2]; exact (show 8 + (2 + 11) + 1622 ≤ 84000 from oq_2450e786), by rw [E.2.2.2]; exact (show ce + 0 ≤ 601024 by first | (clear hps17; omega) | omega), by rw [E.2.2.2]; exact (show sl + 0 ≤ 7293034 by first | (clear hps17; omega) | omega)⟩ (Nat.le_of_ble_eq_true rfl) (fun vv s19 hq => ?_) (fun ee s19 hq => ?_)))
  rotate_left
  · obtain ⟨Is19, Fs19, JRLx_s19, e20, hv, hrs19, hps19⟩ := hq; cases hv
  obtain ⟨Is19, Fs19, JRLx_s19, e20, hv, hrs19, hps19⟩ := hq
  cases hv
  have JRLx_s19 : RLx s19 := RLx_fm Fs19 (by decide) JRLx_s17
  have JFEQ_s19 : FEQ s19 := FEQ_fm Fs19 (by decide) JFEQ_s17
  have JREQ_s19 : REQ 39 234 28 s19 := REQ_fm Fs19 (by decide) JREQ_s17
  have JSEQ_s19 : SEQ s19 := SEQ_fm Fs19 (by decide) JSEQ_s17
  have JARJ_s19 : ARJ s19 := ARJ_fm Fs19 ⟨by decide +kernel, by decide +kernel, by decide +kernel, by decide +kernel, by decide +kernel, by decide +kernel, by decide +kernel, by decide +kernel⟩ JARJ_s17
  have JPTJ_s19 : PTJ s19 := PTJ_fm Fs19 (by decide +kernel) JPTJ_s17
  have ws19_0 : iI s19 0 = iI s17 0 := fm_iq Fs19 rfl
  have ws19_74 : iI s19 74 = iI s17 74 := fm_iq Fs19 rfl
  have ws19_9 : iI s19 9 = iI s17 9 := fm_iq Fs19 rfl
  have ws19_90 : iI s19 90 = iI s17 90 := fm_iq Fs19 rfl
  have ws19_20 : iI s19 20 = iI s17 20 := fm_iq Fs19 rfl
  have ws19_98 : iI s19 98 = iI s17 98 := fm_iq Fs19 rfl
  have ws19_28 : iI s19 28 = iI s17 28 := fm_iq Fs19 rfl
  have ws19_97 : iI s19 97 = iI s17 97 := fm_iq Fs19 rfl
  have ws19_32 : iI s19 32 = iI s17 32 := fm_iq Fs19 rfl
  have ws19_99 : iI s19 99 = iI s17 99 := fm_iq Fs19 rfl
  have ws19_70 : iI s19 70 = iI s17 70 := fm_iq Fs19 rfl
  have ws19_107 : iI s19 107 = iI s17 107 := fm_iq Fs19 rfl
  have ws19_12 : iI s19 12 = iI s17 12 := fm_iq Fs19 rfl
  have ws19_83 : iI s19 83 = iI s17 83 := fm_iq Fs19 rfl
  have ws19_12 : iI s19 12 = iI s17 12 := fm_iq Fs19 rfl
  have ws19_89 : iI s19 89 = iI s17 89 := fm_iq Fs19 rfl
  have wos19 : iO s19 = iO s17 := fm_o Fs19 (by decide)
  show WS k 949 [(0, .ref q1), (1, .ref (A 0)), (2, .ref (A 179)), (3, .ref (A 517)), (4, .int (Int32.ofInt i))] [.int (Int32.ofInt e20)] (Wd A dT s19) ce sl
  refine w_pop X.1 (ax_d X (show cdA 350 949 = some (.pop, 1, 0, 0, 0) from rfl)) rfl (z_goto X (t := 1866) rfl rfl (w_widen (ce' := ce + 29) (sl' := sl + 222) (by first | exact Nat.le_add_right _ _ | exact Nat.add_le_add_left (by decide) _ | omega) (by first | exact Nat.le_add_right _ _ | exact Nat.add_le_add_left (by decide) _ | omega) ?_))
  exact WS_lv (lv := [(0, .ref q1), (1, .ref (A 0)), (2, .ref (A 179)), (3, .ref (A 517)), (4, .int (Int32.ofInt i))]) (List.forall_mem_cons.mpr ⟨(List.Mem.head _), (List.forall_mem_cons.mpr ⟨(List.Mem.tail _ (List.Mem.head _)), (List.forall_mem_cons.mpr ⟨(List.Mem.tail _ (List.Mem.tail _ (List.Mem.head _))), (List.forall_mem_cons.mpr ⟨(List.Mem.tail _ (List.Mem.tail _ (List.Mem.tail _ (List.Mem.head _)))), (List.forall_mem_cons.mpr ⟨(List.Mem.tail _ (List.Mem.tail _ (List.Mem.tail _ (List.Mem.tail _ (List.Mem.head _))))), (fun q h => absurd h List.not_mem_nil)⟩)⟩)⟩)⟩)⟩) (hk A _ Is19 JRLx_s19 JFEQ_s19 JREQ_s19 JSEQ_s19 JARJ_s19 JPTJ_s19 (by first | exact oq_f34933ba ws19_89 ws17_89 p1 b16.1 | omega) (by first | exact oq_d7ce4408 ws19_12 ws17_12 p2 | omega) (by first | exact oq_5bcdc35f ws19_74 ws19_0 ws17_74 ws17_0 p3 | omega) (by first | exact oq_5bcdc35f ws19_90 ws19_9 ws17_90 ws17_9 p4 | omega) (by first | exact oq_5bcdc35f ws19_98 ws19_20 ws17_98 ws17_20 p5 | omega) (by first | exact oq_5bcdc35f ws19_97 ws19_28 ws17_97 ws17_28 p6 | omega) (by first | exact oq_5bcdc35f ws19_99 ws19_32 ws17_99 ws17_32 p7 | omega) (by first | exact oq_5bcdc35f ws19_107 ws19_70 ws17_107 ws17_70 p8 | omega) (by first | exact oq_5bc06b03 ws19_83 ws19_12 ws17_83 p9 ws17_12 | omega))
theorem lc_19 (G : GX l s0 D tys a0 dT) (GR : RS0 s0) (SF : SF0 s0) (GT : TXs0 s0) (GW : TXw0 s0) {k : kx_T} (X : AX k 350 dT) (E : kL k = l ∧ kS0 k = s0 ∧ kD k = D ∧ kR k = room_1) {q1 L : Nat} {xs : Nat → Int32} (S : SX k q1 L xs) (hL : L ≤ 3072) (I : Bd s) (jR : RLx s) (jFEQ : FEQ s) (jREQ : REQ 39 234 28 s) (jSEQ : SEQ s) (jARJ : ARJ s) (jPTJ : PTJ s) (p1 : iI s 89 = 1) (p2 : iI s 12 ≤ 8) (p3 : iI s 0 = iI s 74) (p4 : iI s 9 = iI s 90) (p5 : iI s 20 = iI s 98) (p6 : iI s 28 = iI s 97) (p7 : iI s 32 = iI s 99) (p8 : iI s 70 = iI s 107) (p9 : iI s 12 = iI s 83) {i : Int} (hi : 0 ≤ i ∧ i + 6 ≤ (L : Int)) {ce sl : Nat} (hce : ce + 29 ≤ 601024) (hsl : sl + 222 ≤ 7293034) (hk : ∀ (A : Nat → Nat) (t : PS), Bd t → RLx t → FEQ t → REQ 39 234 28 t → SEQ t → ARJ t → PTJ t → iI t 89 = 1 → iI t 12 ≤ 8 → iI t 0 = iI t 74 → iI t 9 = iI t 90 → iI t 20 = iI t 98 → iI t 28 = iI t 97 → iI t 32 = iI t 99 → iI t 70 = iI t 107 → iI t 12 = iI t 83 → WS k 1866 [(0, .ref q1), (1, .ref (A 0)), (2, .ref (A 179)), (3, .ref (A 517)), (4, .int (Int32.ofInt i))] [] (Wd A dT t) (ce + 29) (sl + 222)) : WS k 953 [(0, .ref q1), (1, .ref (A 0)), (2, .ref (A 179)), (3, .ref (A 517)), (4, .int (Int32.ofInt i))] [] (Wd A dT s) ce sl := by
  have F : Fm [22, 23, 24, 73, 77, 75, 78, 79, 80, 81] [33, 26, 27, 28, 29, 30, 31, 32, 20, 36, 37, 35, 202, 204, 205, 206, 207, 208, 209, 210, 211, 212, 213, 214, 215, 216, 217, 218, 219, 220, 221, 222, 223, 224, 225, 226, 227, 203, 161, 230, 233] s s := fm_rf _ _ s
  have b1 := bi_0 I
  have b2 := bi_74 I
  have b3 := bi_9 I
  have b4 := bi_90 I
  have b5 := bi_20 I
  have b6 := bi_98 I
  have b7 := bi_28 I
  have b8 := bi_97 I
  have b9 := bi_32 I
  have b10 := bi_99 I
  have b11 := bi_70 I
  have b12 := bi_107 I
  have b13 := bi_12 I
  have b14 := bi_83 I
  have b15 := bi_12 I
  have b16 := bi_89 I
  refine z_aload_n X (x := A 0) rfl (List.Mem.tail _ (List.Mem.head _)) ?_
  obtain ⟨U, hU1, hU2, hU3⟩ := air_U jARJ.2.2.2.2.2.1 jARJ.1 jARJ.2.1 jARJ.2.2.1 jARJ.2.2.2.2.1 jARJ.2.2.2.2.2.2.2 (by omega) (by omega)
  refine z_callV X 0 (rm := rmN 154) (As := []) (st := []) rfl rfl (by decide) rfl (by rw [E.1, E.2.1, E.2.2.1]; exact cs_cost6 G I jARJ.2.2.2.2.2.1 jARJ.2.2.2.2.2.2.1 hU1 jPTJ.1 ) ⟨by rw [E.2.2.2]; exact (show 12 + 1 ≤ 2048 from oq_f781d9f4), by rw [E.2.2.2]; exact (show 8 + (1 + 11) + 237 ≤ 84000 from oq_d9c24595), by rw [E.2.2.2]; exact (show ce + 0 ≤ 601024 by omega), by rw [E.2.2.2]; exact (show sl + 0 ≤ 7293034 by omega)⟩ (Nat.le_of_ble_eq_true rfl) (fun vv s17 hq => ?_) (fun ee s17 hq => ?_)
  rotate_left
  · obtain ⟨Is17, Fs17, e18, hv, hrs17, hps17⟩ := hq; cases hv
  obtain ⟨Is17, Fs17, e18, hv, hrs17, hps17⟩ := hq
  cases hv
  have JRLx_s17 : RLx s17 := RLx_fm Fs17 (by decide) jR
  have JFEQ_s17 : FEQ s17 := FEQ_fm Fs17 (by decide) jFEQ
  have JREQ_s17 : REQ 39 234 28 s17 := REQ_fm Fs17 (by decide) jREQ
  have JSEQ_s17 : SEQ s17 := SEQ_fm Fs17 (by decide) jSEQ
  have JARJ_s17 : ARJ s17 := ARJ_fm Fs17 ⟨by decide +kernel, by decide +kernel, by decide +kernel, by decide +kernel, by decide +kernel, by decide +kernel, by decide +kernel, by decide +kernel⟩ jARJ
  have JPTJ_s17 : PTJ s17 := PTJ_fm Fs17 (by decide +kernel) jPTJ
  have JMDJ_s17 : MDJ U s17 := MDJ_fm Fs17 (by decide +kernel) hU2
  have ws17_0 : iI s17 0 = iI s 0 := fm_iq Fs17 rfl
  have ws17_74 : iI s17 74 = iI s 74 := fm_iq Fs17 rfl
  have ws17_9 : iI s17 9 = iI s 9 := fm_iq Fs17 rfl
  have ws17_90 : iI s17 90 = iI s 90 := fm_iq Fs17 rfl
  have ws17_20 : iI s17 20 = iI s 20 := fm_iq Fs17 rfl
  have ws17_98 : iI s17 98 = iI s 98 := fm_iq Fs17 rfl
  have ws17_28 : iI s17 28 = iI s 28 := fm_iq Fs17 rfl
  have ws17_97 : iI s17 97 = iI s 97 := fm_iq Fs17 rfl
  have ws17_32 : iI s17 32 = iI s 32 := fm_iq Fs17 rfl
  have ws17_99 : iI s17 99 = iI s 99 := fm_iq Fs17 rfl
  have ws17_70 : iI s17 70 = iI s 70 := fm_iq Fs17 rfl
  have ws17_107 : iI s17 107 = iI s 107 := fm_iq Fs17 rfl
  have ws17_12 : iI s17 12 = iI s 12 := fm_iq Fs17 rfl
  have ws17_83 : iI s17 83 = iI s 83 := fm_iq Fs17 rfl
  have ws17_12 : iI s17 12 = iI s 12 := fm_iq Fs17 rfl
  have ws17_89 : iI s17 89 = iI s 89 := fm_iq Fs17 rfl
  have wos17 : iO s17 = iO s := fm_o Fs17 (by decide)
  show WS k 957 [(0, .ref q1), (1, .ref (A 0)), (2, .ref (A 179)), (3, .ref (A 517)), (4, .int (Int32.ofInt i))] [.int (Int32.ofInt e18)] (Wd A dT s17) ce sl
  refine w_pop X.1 (ax_d X (show cdA 350 957 = some (.pop, 1, 0, 0, 0) from rfl)) rfl (z_aload_n X (x := A 179) rfl (List.Mem.tail _ (List.Mem.tail _ (List.Mem.head _))) (z_callV X 179 (rm := rmN 253) (As := []) (st := []) rfl rfl (by decide) rfl (by rw [E.1, E.2.1, E.2.2.1]; exact k_cost6 G Is17 JRLx_s17 JMDJ_s17 (by first | exact oq_b44a1c7f ws17_89 p1 b16.1 | omega)) ⟨by rw [E.2.2.2]; exact (show 41 + 1 ≤ 2048 from oq_2c2f0271), by rw [E.2.2.2]; exact (show 8 + (1 + 11) + 1663 ≤ 84000 from oq_260410fd), by rw [E.2.2.2]; exact (show ce + 0 ≤ 601024 by omega), by rw [E.2.2.2]; exact (show sl + 0 ≤ 7293034 by omega)⟩ (Nat.le_of_ble_eq_true rfl) (fun vv s19 hq => ?_) (fun ee s19 hq => ?_)))
  rotate_left
  · obtain ⟨Is19, Fs19, JRLx_s19, e20, hv, hrs19, hps19⟩ := hq; cases hv
  obtain ⟨Is19, Fs19, JRLx_s19, e20, hv, hrs19, hps19⟩ := hq
  cases hv
  have JRLx_s19 : RLx s19 := RLx_fm Fs19 (by decide) JRLx_s17
  have JFEQ_s19 : FEQ s19 := FEQ_fm Fs19 (by decide) JFEQ_s17
  have JREQ_s19 : REQ 39 234 28 s19 := REQ_fm Fs19 (by decide) JREQ_s17
  have JSEQ_s19 : SEQ s19 := SEQ_fm Fs19 (by decide) JSEQ_s17
  have JARJ_s19 : ARJ s19 := ARJ_fm Fs19 ⟨by decide +kernel, by decide +kernel, by decide +kernel, by decide +kernel, by decide +kernel, by decide +kernel, by decide +kernel, by decide +kernel⟩ JARJ_s17
  have JPTJ_s19 : PTJ s19 := PTJ_fm Fs19 (by decide +kernel) JPTJ_s17
  have ws19_0 : iI s19 0 = iI s17 0 := fm_iq Fs19 rfl
  have ws19_74 : iI s19 74 = iI s17 74 := fm_iq Fs19 rfl
  have ws19_9 : iI s19 9 = iI s17 9 := fm_iq Fs19 rfl
  have ws19_90 : iI s19 90 = iI s17 90 := fm_iq Fs19 rfl
  have ws19_20 : iI s19 20 = iI s17 20 := fm_iq Fs19 rfl
  have ws19_98 : iI s19 98 = iI s17 98 := fm_iq Fs19 rfl
  have ws19_28 : iI s19 28 = iI s17 28 := fm_iq Fs19 rfl
  have ws19_97 : iI s19 97 = iI s17 97 := fm_iq Fs19 rfl
  have ws19_32 : iI s19 32 = iI s17 32 := fm_iq Fs19 rfl
  have ws19_99 : iI s19 99 = iI s17 99 := fm_iq Fs19 rfl
  have ws19_70 : iI s19 70 = iI s17 70 := fm_iq Fs19 rfl
  have ws19_107 : iI s19 107 = iI s17 107 := fm_iq Fs19 rfl
  have ws19_12 : iI s19 12 = iI s17 12 := fm_iq Fs19 rfl
  have ws19_83 : iI s19 83 = iI s17 83 := fm_iq Fs19 rfl
  have ws19_12 : iI s19 12 = iI s17 12 := fm_iq Fs19 rfl
  have ws19_89 : iI s19 89 = iI s17 89 := fm_iq Fs19 rfl
  have wos19 : iO s19 = iO s17 := fm_o Fs19 (by decide)
  show WS k 962 [(0, .ref q1), (1, .ref (A 0)), (2, .ref (A 179)), (3, .ref (A 517)), (4, .int (Int32.ofInt i))] [.int (Int32.ofInt e20)] (Wd A dT s19) ce sl
  have cc := hps17
  ·
    have mm := hps19
    ·
      have rq21 := cst_eq (u_wok jARJ.2.2.2.2.2.1 hU1) (fun j hj => (jPTJ.2.1 j hj).trans ((sam_fm Fs17 (by decide +kernel) : SAM 228 _ _) j).symm) cc mm.1
      refine w_pop X.1 (ax_d X (show cdA 350 962 = some (.pop, 1, 0, 0, 0) from rfl)) rfl (z_goto X (t := 1866) rfl rfl (w_widen (ce' := ce + 29) (sl' := sl + 222) (by first | exact Nat.le_add_right _ _ | exact Nat.add_le_add_left (by decide) _ | omega) (by first | exact Nat.le_add_right _ _ | exact Nat.add_le_add_left (by decide) _ | omega) ?_))
      exact WS_lv (lv := [(0, .ref q1), (1, .ref (A 0)), (2, .ref (A 179)), (3, .ref (A 517)), (4, .int (Int32.ofInt i))]) (List.forall_mem_cons.mpr ⟨(List.Mem.head _), (List.forall_mem_cons.mpr ⟨(List.Mem.tail _ (List.Mem.head _)), (List.forall_mem_cons.mpr ⟨(List.Mem.tail _ (List.Mem.tail _ (List.Mem.head _))), (List.forall_mem_cons.mpr ⟨(List.Mem.tail _ (List.Mem.tail _ (List.Mem.tail _ (List.Mem.head _)))), (List.forall_mem_cons.mpr ⟨(List.Mem.tail _ (List.Mem.tail _ (List.Mem.tail _ (List.Mem.tail _ (List.Mem.head _))))), (fun q h => absurd h List.not_mem_nil)⟩)⟩)⟩)⟩)⟩) (hk A _ Is19 JRLx_s19 JFEQ_s19 JREQ_s19 JSEQ_s19 JARJ_s19 JPTJ_s19 (by first | exact oq_f34933ba ws19_89 ws17_89 p1 b16.1 | omega) (by first | exact oq_d7ce4408 ws19_12 ws17_12 p2 | omega) (by first | exact oq_5bcdc35f ws19_74 ws19_0 ws17_74 ws17_0 p3 | omega) (by first | exact oq_5bcdc35f ws19_90 ws19_9 ws17_90 ws17_9 p4 | omega) (by first | exact oq_5bcdc35f ws19_98 ws19_20 ws17_98 ws17_20 p5 | omega) (by first | exact oq_5bcdc35f ws19_97 ws19_28 ws17_97 ws17_28 p6 | omega) (by first | exact oq_5bcdc35f ws19_99 ws19_32 ws17_99 ws17_32 p7 | omega) (by first | exact oq_5bcdc35f ws19_107 ws19_70 ws17_107 ws17_70 p8 | omega) (by first | exact oq_5bc06b03 ws19_83 ws19_12 ws17_83 p9 ws17_12 | omega))
theorem lc_20 (G : GX l s0 D tys a0 dT) (GR : RS0 s0) (SF : SF0 s0) (GT : TXs0 s0) (GW : TXw0 s0) {k : kx_T} (X : AX k 350 dT) (E : kL k = l ∧ kS0 k = s0 ∧ kD k = D ∧ kR k = room_1) {q1 L : Nat} {xs : Nat → Int32} (S : SX k q1 L xs) (hL : L ≤ 3072) (I : Bd s) (jR : RLx s) (jFEQ : FEQ s) (jREQ : REQ 39 234 28 s) (jSEQ : SEQ s) (jARJ : ARJ s) (jPTJ : PTJ s) (p1 : iI s 89 = 1) (p2 : iI s 12 ≤ 8) (p3 : iI s 0 = iI s 74) (p4 : iI s 9 = iI s 90) (p5 : iI s 20 = iI s 98) (p6 : iI s 28 = iI s 97) (p7 : iI s 32 = iI s 99) (p8 : iI s 70 = iI s 107) (p9 : iI s 12 = iI s 83) {i : Int} (hi : 0 ≤ i ∧ i + 6 ≤ (L : Int)) {ce sl : Nat} (hce : ce + 29 ≤ 601024) (hsl : sl + 222 ≤ 7293034) (hk : ∀ (A : Nat → Nat) (t : PS), Bd t → RLx t → FEQ t → REQ 39 234 28 t → SEQ t → ARJ t → PTJ t → iI t 89 = 1 → iI t 12 ≤ 8 → iI t 0 = iI t 74 → iI t 9 = iI t 90 → iI t 20 = iI t 98 → iI t 28 = iI t 97 → iI t 32 = iI t 99 → iI t 70 = iI t 107 → iI t 12 = iI t 83 → WS k 1866 [(0, .ref q1), (1, .ref (A 0)), (2, .ref (A 179)), (3, .ref (A 517)), (4, .int (Int32.ofInt i))] [] (Wd A dT t) (ce + 29) (sl + 222)) : WS k 966 [(0, .ref q1), (1, .ref (A 0)), (2, .ref (A 179)), (3, .ref (A 517)), (4, .int (Int32.ofInt i))] [] (Wd A dT s) ce sl := by
  have F : Fm [22, 23, 24, 25, 26, 27, 73, 77, 75, 78, 79, 80, 81, 92, 93, 94] [33, 26, 27, 28, 29, 30, 31, 32, 20, 36, 37, 21, 35, 38, 1022, 1023, 1460, 202, 204, 205, 206, 207, 208, 209, 210, 211, 212, 213, 214, 215, 216, 217, 218, 219, 220, 221, 222, 223, 224, 225, 226, 227, 203, 161, 230, 233, 231, 232, 228] s s := fm_rf _ _ s
  have b1 := bi_0 I
  have b2 := bi_74 I
  have b3 := bi_9 I
  have b4 := bi_90 I
  have b5 := bi_20 I
  have b6 := bi_98 I
  have b7 := bi_28 I
  have b8 := bi_97 I
  have b9 := bi_32 I
  have b10 := bi_99 I
  have b11 := bi_70 I
  have b12 := bi_107 I
  have b13 := bi_12 I
  have b14 := bi_83 I
  have b15 := bi_12 I
  have b16 := bi_89 I
  refine z_aload_n X (x := A 0) rfl (List.Mem.tail _ (List.Mem.head _)) (z_aload_n X (x := q1) rfl (List.Mem.head _) (z_load X (x := i) rfl (List.Mem.tail _ (List.Mem.tail _ (List.Mem.tail _ (List.Mem.tail _ (List.Mem.head _))))) (z_const X rfl (z_add X rfl (z_sld X S hL rfl (show 0 ≤ (i + 1) ∧ (i + 1) < (L : Int) by first | exact sx_in hi (by decide) | omega) ?_)))))
  have sr17 : rng (sc xs (i + 1)) := sc_rng
  refine z_aload_n X (x := A 517) rfl (List.Mem.tail _ (List.Mem.tail _ (List.Mem.tail _ (List.Mem.head _)))) ?_
  obtain ⟨U, hU1, hU2, hU3⟩ := air_U jARJ.2.2.2.2.2.1 jARJ.1 jARJ.2.1 jARJ.2.2.1 jARJ.2.2.2.2.1 jARJ.2.2.2.2.2.2.2 (by omega) (by omega)
  refine z_callL X (rm := rmN 330) (As := [.ref (A 0), .int (Int32.ofInt (sc xs (i + 1))), .ref (A 517)]) (st := []) rfl (by decide) rfl (by rw [E.1, E.2.1, E.2.2.1]; exact lw_better6 G I jARJ.2.2.2.2.2.1 jARJ.2.2.2.2.2.2.1 hU1 jPTJ.1 hU3 (by omega)) ⟨by rw [E.2.2.2]; exact (show 14 + 1 ≤ 2048 by decide), by rw [E.2.2.2]; exact (show 8 + (4 + 11) + 289 ≤ 84000 by decide), by rw [E.2.2.2]; exact (show ce + 1 ≤ 601024 by first | exact rmo_1 hce (by decide) | exact rmo_2 hce (by decide) | omega), by rw [E.2.2.2]; exact (show sl + 6 ≤ 7293034 by first | exact rmo_1 hsl (by decide) | exact rmo_2 hsl (by decide) | omega)⟩ (Nat.le_of_ble_eq_true rfl) (fun vv A s18 hA2 hq => ?_) (fun ee A s18 hA2 hq => ?_)
  rotate_left
  · obtain ⟨Is18, Fs18, JPMJ_s18, e19, hv, hrs18, hps18⟩ := hq; cases hv
  obtain ⟨Is18, Fs18, JPMJ_s18, e19, hv, hrs18, hps18⟩ := hq
  cases hv
  rw [← hA2 0 (by decide)]
  rw [← hA2 179 (by decide)]
  rw [← hA2 517 (by decide)]
  have JRLx_s18 : RLx s18 := RLx_fm Fs18 (by decide) jR
  have JFEQ_s18 : FEQ s18 := FEQ_fm Fs18 (by decide) jFEQ
  have JREQ_s18 : REQ 39 234 28 s18 := REQ_fm Fs18 (by decide) jREQ
  have JSEQ_s18 : SEQ s18 := SEQ_fm Fs18 (by decide) jSEQ
  have JARJ_s18 : ARJ s18 := ARJ_fm Fs18 ⟨by decide +kernel, by decide +kernel, by decide +kernel, by decide +kernel, by decide +kernel, by decide +kernel, by decide +kernel, by decide +kernel⟩ jARJ
  have JALJ_s18 : AEQ 24 229 8 s18 := ALJ_fm Fs18 (by decide) jPTJ.2.2.1
  have JMKJ_s18 : MKJ s18 := MKJ_fm Fs18 (by decide +kernel) jPTJ.2.2.2
  have JMDJ_s18 : MDJ U s18 := MDJ_fm Fs18 (by decide +kernel) hU2
  have ws18_0 : iI s18 0 = iI s 0 := fm_iq Fs18 rfl
  have ws18_74 : iI s18 74 = iI s 74 := fm_iq Fs18 rfl
  have ws18_9 : iI s18 9 = iI s 9 := fm_iq Fs18 rfl
  have ws18_90 : iI s18 90 = iI s 90 := fm_iq Fs18 rfl
  have ws18_20 : iI s18 20 = iI s 20 := fm_iq Fs18 rfl
  have ws18_98 : iI s18 98 = iI s 98 := fm_iq Fs18 rfl
  have ws18_28 : iI s18 28 = iI s 28 := fm_iq Fs18 rfl
  have ws18_97 : iI s18 97 = iI s 97 := fm_iq Fs18 rfl
  have ws18_32 : iI s18 32 = iI s 32 := fm_iq Fs18 rfl
  have ws18_99 : iI s18 99 = iI s 99 := fm_iq Fs18 rfl
  have ws18_70 : iI s18 70 = iI s 70 := fm_iq Fs18 rfl
  have ws18_107 : iI s18 107 = iI s 107 := fm_iq Fs18 rfl
  have ws18_12 : iI s18 12 = iI s 12 := fm_iq Fs18 rfl
  have ws18_83 : iI s18 83 = iI s 83 := fm_iq Fs18 rfl
  have ws18_12 : iI s18 12 = iI s 12 := fm_iq Fs18 rfl
  have ws18_89 : iI s18 89 = iI s 89 := fm_iq Fs18 rfl
  show WS k 977 [(0, .ref q1), (1, .ref (A 0)), (2, .ref (A 179)), (3, .ref (A 517)), (4, .int (Int32.ofInt i))] [.int (Int32.ofInt e19)] (Wd A dT s18) (ce + 1) (sl + 6)
  refine z_store X (lv' := [(5, .int (Int32.ofInt e19)), (0, .ref q1), (1, .ref (A 0)), (2, .ref (A 179)), (3, .ref (A 517)), (4, .int (Int32.ofInt i))]) rfl (by decide) (fun _ h => h) (z_aload_n X (x := A 179) rfl (List.Mem.tail _ (List.Mem.tail _ (List.Mem.tail _ (List.Mem.head _)))) (z_aload_n X (x := q1) rfl (List.Mem.tail _ (List.Mem.head _)) (z_load X (x := i) rfl (List.Mem.tail _ (List.Mem.tail _ (List.Mem.tail _ (List.Mem.tail _ (List.Mem.tail _ (List.Mem.head _)))))) (z_const X rfl (z_add X rfl (z_sld X S hL rfl (show 0 ≤ (i + 1) ∧ (i + 1) < (L : Int) by first | exact sx_in hi (by decide) | omega) ?_))))))
  have sr20 : rng (sc xs (i + 1)) := sc_rng
  refine z_callV X 179 (rm := rmN 256) (As := [.int (Int32.ofInt (sc xs (i + 1)))]) (st := []) rfl rfl (by decide) rfl (by rw [E.1, E.2.1, E.2.2.1]; exact k_better6 G Is18 JRLx_s18 JMDJ_s18 (by first | exact ⟨sr20.1, sr20.2⟩ | omega) (by first | exact oq_b44a1c7f ws18_89 p1 b16.1 | omega)) ⟨by rw [E.2.2.2]; exact (show 42 + 1 ≤ 2048 from oq_38aede7b), by rw [E.2.2.2]; exact (show 8 + (2 + 11) + 1687 ≤ 84000 from oq_b5fdcedd), by rw [E.2.2.2]; exact (show (ce + 1) + 0 ≤ 601024 by first | (clear hps18; omega) | omega), by rw [E.2.2.2]; exact (show (sl + 6) + 0 ≤ 7293034 by first | (clear hps18; omega) | omega)⟩ (Nat.le_of_ble_eq_true rfl) (fun vv s21 hq => ?_) (fun ee s21 hq => ?_)
  rotate_left
  · obtain ⟨Is21, Fs21, JRLx_s21, e22, hv, hrs21, hps21⟩ := hq; cases hv
  obtain ⟨Is21, Fs21, JRLx_s21, e22, hv, hrs21, hps21⟩ := hq
  cases hv
  have JRLx_s21 : RLx s21 := RLx_fm Fs21 (by decide) JRLx_s18
  have JFEQ_s21 : FEQ s21 := FEQ_fm Fs21 (by decide) JFEQ_s18
  have JREQ_s21 : REQ 39 234 28 s21 := REQ_fm Fs21 (by decide) JREQ_s18
  have JSEQ_s21 : SEQ s21 := SEQ_fm Fs21 (by decide) JSEQ_s18
  have JARJ_s21 : ARJ s21 := ARJ_fm Fs21 ⟨by decide +kernel, by decide +kernel, by decide +kernel, by decide +kernel, by decide +kernel, by decide +kernel, by decide +kernel, by decide +kernel⟩ JARJ_s18
  have JALJ_s21 : AEQ 24 229 8 s21 := ALJ_fm Fs21 (by decide) JALJ_s18
  have JMKJ_s21 : MKJ s21 := MKJ_fm Fs21 (by decide +kernel) JMKJ_s18
  have JPMJ_s21 : PMJ s21 := PMJ_fm Fs21 (by decide +kernel) JPMJ_s18
  have ws21_0 : iI s21 0 = iI s18 0 := fm_iq Fs21 rfl
  have ws21_74 : iI s21 74 = iI s18 74 := fm_iq Fs21 rfl
  have ws21_9 : iI s21 9 = iI s18 9 := fm_iq Fs21 rfl
  have ws21_90 : iI s21 90 = iI s18 90 := fm_iq Fs21 rfl
  have ws21_20 : iI s21 20 = iI s18 20 := fm_iq Fs21 rfl
  have ws21_98 : iI s21 98 = iI s18 98 := fm_iq Fs21 rfl
  have ws21_28 : iI s21 28 = iI s18 28 := fm_iq Fs21 rfl
  have ws21_97 : iI s21 97 = iI s18 97 := fm_iq Fs21 rfl
  have ws21_32 : iI s21 32 = iI s18 32 := fm_iq Fs21 rfl
  have ws21_99 : iI s21 99 = iI s18 99 := fm_iq Fs21 rfl
  have ws21_70 : iI s21 70 = iI s18 70 := fm_iq Fs21 rfl
  have ws21_107 : iI s21 107 = iI s18 107 := fm_iq Fs21 rfl
  have ws21_12 : iI s21 12 = iI s18 12 := fm_iq Fs21 rfl
  have ws21_83 : iI s21 83 = iI s18 83 := fm_iq Fs21 rfl
  have ws21_12 : iI s21 12 = iI s18 12 := fm_iq Fs21 rfl
  have ws21_89 : iI s21 89 = iI s18 89 := fm_iq Fs21 rfl
  have wos21 : iO s21 = iO s18 := fm_o Fs21 (by decide)
  show WS k 989 [(5, .int (Int32.ofInt e19)), (0, .ref q1), (1, .ref (A 0)), (2, .ref (A 179)), (3, .ref (A 517)), (4, .int (Int32.ofInt i))] [.int (Int32.ofInt e22)] (Wd A dT s21) (ce + 1) (sl + 6)
  rcases hps18 with cc | cc
  ·
    rcases hps21 with mm | mm
    ·
      have rq23 := bte_eq (u_wok jARJ.2.2.2.2.2.1 hU1) (fun j hj => (jPTJ.2.1 j hj).trans ((sam_fm Fs18 (by decide +kernel) : SAM 228 _ _) j).symm) (fun j hj => (jPTJ.2.2.1 j hj).trans ((sam_fm Fs18 (by decide +kernel) : SAM 229 _ _) j).symm) (fun j hj => I.2 21 j hj) cc.2.2.2.2 mm.2.2.2.2.2
      have jb24 : PTJ s21 := ⟨JPMJ_s21, aeq_sam jPTJ.2.1 (sam_ts cc.2.2.2.1 (sam_fm Fs21 (by decide +kernel))) (sam_ts (sam_fm Fs18 (by decide +kernel)) mm.2.2.2.2.1), JALJ_s21, JMKJ_s21⟩
      refine z_store X (lv' := [(6, .int (Int32.ofInt e22)), (5, .int (Int32.ofInt e19)), (0, .ref q1), (1, .ref (A 0)), (2, .ref (A 179)), (3, .ref (A 517)), (4, .int (Int32.ofInt i))]) rfl (by decide) (fun _ h => h) (z_goto X (t := 1866) rfl rfl (w_widen (ce' := ce + 29) (sl' := sl + 222) (by first | exact Nat.le_add_right _ _ | exact Nat.add_le_add_left (by decide) _ | omega) (by first | exact Nat.le_add_right _ _ | exact Nat.add_le_add_left (by decide) _ | omega) ?_))
      exact WS_lv (lv := [(0, .ref q1), (1, .ref (A 0)), (2, .ref (A 179)), (3, .ref (A 517)), (4, .int (Int32.ofInt i))]) (List.forall_mem_cons.mpr ⟨(List.Mem.tail _ (List.Mem.tail _ (List.Mem.head _))), (List.forall_mem_cons.mpr ⟨(List.Mem.tail _ (List.Mem.tail _ (List.Mem.tail _ (List.Mem.head _)))), (List.forall_mem_cons.mpr ⟨(List.Mem.tail _ (List.Mem.tail _ (List.Mem.tail _ (List.Mem.tail _ (List.Mem.head _))))), (List.forall_mem_cons.mpr ⟨(List.Mem.tail _ (List.Mem.tail _ (List.Mem.tail _ (List.Mem.tail _ (List.Mem.tail _ (List.Mem.head _)))))), (List.forall_mem_cons.mpr ⟨(List.Mem.tail _ (List.Mem.tail _ (List.Mem.tail _ (List.Mem.tail _ (List.Mem.tail _ (List.Mem.tail _ (List.Mem.head _))))))), (fun q h => absurd h List.not_mem_nil)⟩)⟩)⟩)⟩)⟩) (hk A _ Is21 JRLx_s21 JFEQ_s21 JREQ_s21 JSEQ_s21 JARJ_s21 jb24 (by first | exact oq_f34933ba ws21_89 ws18_89 p1 b16.1 | omega) (by first | exact oq_d7ce4408 ws21_12 ws18_12 p2 | omega) (by first | exact oq_5bcdc35f ws21_74 ws21_0 ws18_74 ws18_0 p3 | omega) (by first | exact oq_5bcdc35f ws21_90 ws21_9 ws18_90 ws18_9 p4 | omega) (by first | exact oq_5bcdc35f ws21_98 ws21_20 ws18_98 ws18_20 p5 | omega) (by first | exact oq_5bcdc35f ws21_97 ws21_28 ws18_97 ws18_28 p6 | omega) (by first | exact oq_5bcdc35f ws21_99 ws21_32 ws18_99 ws18_32 p7 | omega) (by first | exact oq_5bcdc35f ws21_107 ws21_70 ws18_107 ws18_70 p8 | omega) (by first | exact oq_5bc06b03 ws21_83 ws21_12 ws18_83 p9 ws18_12 | omega))
    ·
      exfalso
      omega
  ·
    rcases hps21 with mm | mm
    ·
      exfalso
      omega
    ·
      have jb25 : PTJ s21 := ⟨JPMJ_s21, aeq_sam jPTJ.2.1 (sam_ts cc.2.2 (sam_fm Fs21 (by decide +kernel))) (sam_ts (sam_fm Fs18 (by decide +kernel)) mm.2.2.1), JALJ_s21, JMKJ_s21⟩
      refine z_store X (lv' := [(6, .int (Int32.ofInt e22)), (5, .int (Int32.ofInt e19)), (0, .ref q1), (1, .ref (A 0)), (2, .ref (A 179)), (3, .ref (A 517)), (4, .int (Int32.ofInt i))]) rfl (by decide) (fun _ h => h) (z_goto X (t := 1866) rfl rfl (w_widen (ce' := ce + 29) (sl' := sl + 222) (by first | exact Nat.le_add_right _ _ | exact Nat.add_le_add_left (by decide) _ | omega) (by first | exact Nat.le_add_right _ _ | exact Nat.add_le_add_left (by decide) _ | omega) ?_))
      exact WS_lv (lv := [(0, .ref q1), (1, .ref (A 0)), (2, .ref (A 179)), (3, .ref (A 517)), (4, .int (Int32.ofInt i))]) (List.forall_mem_cons.mpr ⟨(List.Mem.tail _ (List.Mem.tail _ (List.Mem.head _))), (List.forall_mem_cons.mpr ⟨(List.Mem.tail _ (List.Mem.tail _ (List.Mem.tail _ (List.Mem.head _)))), (List.forall_mem_cons.mpr ⟨(List.Mem.tail _ (List.Mem.tail _ (List.Mem.tail _ (List.Mem.tail _ (List.Mem.head _))))), (List.forall_mem_cons.mpr ⟨(List.Mem.tail _ (List.Mem.tail _ (List.Mem.tail _ (List.Mem.tail _ (List.Mem.tail _ (List.Mem.head _)))))), (List.forall_mem_cons.mpr ⟨(List.Mem.tail _ (List.Mem.tail _ (List.Mem.tail _ (List.Mem.tail _ (List.Mem.tail _ (List.Mem.tail _ (List.Mem.head _))))))), (fun q h => absurd h List.not_mem_nil)⟩)⟩)⟩)⟩)⟩) (hk A _ Is21 JRLx_s21 JFEQ_s21 JREQ_s21 JSEQ_s21 JARJ_s21 jb25 (by first | exact oq_f34933ba ws21_89 ws18_89 p1 b16.1 | omega) (by first | exact oq_d7ce4408 ws21_12 ws18_12 p2 | omega) (by first | exact oq_5bcdc35f ws21_74 ws21_0 ws18_74 ws18_0 p3 | omega) (by first | exact oq_5bcdc35f ws21_90 ws21_9 ws18_90 ws18_9 p4 | omega) (by first | exact oq_5bcdc35f ws21_98 ws21_20 ws18_98 ws18_20 p5 | omega) (by first | exact oq_5bcdc35f ws21_97 ws21_28 ws18_97 ws18_28 p6 | omega) (by first | exact oq_5bcdc35f ws21_99 ws21_32 ws18_99 ws18_32 p7 | omega) (by first | exact oq_5bcdc35f ws21_107 ws21_70 ws18_107 ws18_70 p8 | omega) (by first | exact oq_5bc06b03 ws21_83 ws21_12 ws18_83 p9 ws18_12 | omega))
theorem lc_21 (G : GX l s0 D tys a0 dT) (GR : RS0 s0) (SF : SF0 s0) (GT : TXs0 s0) (GW : TXw0 s0) {k : kx_T} (X : AX k 350 dT) (E : kL k = l ∧ kS0 k = s0 ∧ kD k = D ∧ kR k = room_1) {q1 L : Nat} {xs : Nat → Int32} (S : SX k q1 L xs) (hL : L ≤ 3072) (I : Bd s) (jR : RLx s) (jFEQ : FEQ s) (jREQ : REQ 39 234 28 s) (jSEQ : SEQ s) (jARJ : ARJ s) (jPTJ : PTJ s) (p1 : iI s 89 = 1) (p2 : iI s 12 ≤ 8) (p3 : iI s 0 = iI s 74) (p4 : iI s 9 = iI s 90) (p5 : iI s 20 = iI s 98) (p6 : iI s 28 = iI s 97) (p7 : iI s 32 = iI s 99) (p8 : iI s 70 = iI s 107) (p9 : iI s 12 = iI s 83) {i : Int} (hi : 0 ≤ i ∧ i + 6 ≤ (L : Int)) {ce sl : Nat} (hce : ce + 29 ≤ 601024) (hsl : sl + 222 ≤ 7293034) (hk : ∀ (A : Nat → Nat) (t : PS), Bd t → RLx t → FEQ t → REQ 39 234 28 t → SEQ t → ARJ t → PTJ t → iI t 89 = 1 → iI t 12 ≤ 8 → iI t 0 = iI t 74 → iI t 9 = iI t 90 → iI t 20 = iI t 98 → iI t 28 = iI t 97 → iI t 32 = iI t 99 → iI t 70 = iI t 107 → iI t 12 = iI t 83 → WS k 1866 [(0, .ref q1), (1, .ref (A 0)), (2, .ref (A 179)), (3, .ref (A 517)), (4, .int (Int32.ofInt i))] [] (Wd A dT t) (ce + 29) (sl + 222)) : WS k 994 [(0, .ref q1), (1, .ref (A 0)), (2, .ref (A 179)), (3, .ref (A 517)), (4, .int (Int32.ofInt i))] [] (Wd A dT s) ce sl := by
  have F : Fm [22, 23, 24, 25, 26, 27, 73, 77, 75, 78, 79, 80, 81, 92, 93, 94] [33, 26, 27, 28, 29, 30, 31, 32, 20, 36, 37, 21, 35, 38, 1022, 1023, 1460, 202, 204, 205, 206, 207, 208, 209, 210, 211, 212, 213, 214, 215, 216, 217, 218, 219, 220, 221, 222, 223, 224, 225, 226, 227, 203, 161, 230, 233, 231, 232, 228] s s := fm_rf _ _ s
  have b1 := bi_0 I
  have b2 := bi_74 I
  have b3 := bi_9 I
  have b4 := bi_90 I
  have b5 := bi_20 I
  have b6 := bi_98 I
  have b7 := bi_28 I
  have b8 := bi_97 I
  have b9 := bi_32 I
  have b10 := bi_99 I
  have b11 := bi_70 I
  have b12 := bi_107 I
  have b13 := bi_12 I
  have b14 := bi_83 I
  have b15 := bi_12 I
  have b16 := bi_89 I
  refine z_aload_n X (x := A 0) rfl (List.Mem.tail _ (List.Mem.head _)) (z_aload_n X (x := q1) rfl (List.Mem.head _) (z_load X (x := i) rfl (List.Mem.tail _ (List.Mem.tail _ (List.Mem.tail _ (List.Mem.tail _ (List.Mem.head _))))) (z_const X rfl (z_add X rfl (z_sld X S hL rfl (show 0 ≤ (i + 1) ∧ (i + 1) < (L : Int) by first | exact sx_in hi (by decide) | omega) ?_)))))
  have sr17 : rng (sc xs (i + 1)) := sc_rng
  refine z_aload_n X (x := A 517) rfl (List.Mem.tail _ (List.Mem.tail _ (List.Mem.tail _ (List.Mem.head _)))) ?_
  obtain ⟨U, hU1, hU2, hU3⟩ := air_U jARJ.2.2.2.2.2.1 jARJ.1 jARJ.2.1 jARJ.2.2.1 jARJ.2.2.2.2.1 jARJ.2.2.2.2.2.2.2 (by omega) (by omega)
  refine z_callL X (rm := rmN 331) (As := [.ref (A 0), .int (Int32.ofInt (sc xs (i + 1))), .ref (A 517)]) (st := []) rfl (by decide) rfl (by rw [E.1, E.2.1, E.2.2.1]; exact lw_grow6 G I jARJ.2.2.2.2.2.1 jARJ.2.2.2.2.2.2.1 hU1 jPTJ.1 hU3 (by omega)) ⟨by rw [E.2.2.2]; exact (show 14 + 1 ≤ 2048 by decide), by rw [E.2.2.2]; exact (show 8 + (4 + 11) + 290 ≤ 84000 by decide), by rw [E.2.2.2]; exact (show ce + 1 ≤ 601024 by first | exact rmo_1 hce (by decide) | exact rmo_2 hce (by decide) | omega), by rw [E.2.2.2]; exact (show sl + 6 ≤ 7293034 by first | exact rmo_1 hsl (by decide) | exact rmo_2 hsl (by decide) | omega)⟩ (Nat.le_of_ble_eq_true rfl) (fun vv A s18 hA2 hq => ?_) (fun ee A s18 hA2 hq => ?_)
  rotate_left
  · obtain ⟨Is18, Fs18, JPMJ_s18, e19, hv, hrs18, hps18⟩ := hq; cases hv
  obtain ⟨Is18, Fs18, JPMJ_s18, e19, hv, hrs18, hps18⟩ := hq
  cases hv
  rw [← hA2 0 (by decide)]
  rw [← hA2 179 (by decide)]
  rw [← hA2 517 (by decide)]
  have JRLx_s18 : RLx s18 := RLx_fm Fs18 (by decide) jR
  have JFEQ_s18 : FEQ s18 := FEQ_fm Fs18 (by decide) jFEQ
  have JREQ_s18 : REQ 39 234 28 s18 := REQ_fm Fs18 (by decide) jREQ
  have JSEQ_s18 : SEQ s18 := SEQ_fm Fs18 (by decide) jSEQ
  have JARJ_s18 : ARJ s18 := ARJ_fm Fs18 ⟨by decide +kernel, by decide +kernel, by decide +kernel, by decide +kernel, by decide +kernel, by decide +kernel, by decide +kernel, by decide +kernel⟩ jARJ
  have JALJ_s18 : AEQ 24 229 8 s18 := ALJ_fm Fs18 (by decide) jPTJ.2.2.1
  have JMKJ_s18 : MKJ s18 := MKJ_fm Fs18 (by decide +kernel) jPTJ.2.2.2
  have JMDJ_s18 : MDJ U s18 := MDJ_fm Fs18 (by decide +kernel) hU2
  have ws18_0 : iI s18 0 = iI s 0 := fm_iq Fs18 rfl
  have ws18_74 : iI s18 74 = iI s 74 := fm_iq Fs18 rfl
  have ws18_9 : iI s18 9 = iI s 9 := fm_iq Fs18 rfl
  have ws18_90 : iI s18 90 = iI s 90 := fm_iq Fs18 rfl
  have ws18_20 : iI s18 20 = iI s 20 := fm_iq Fs18 rfl
  have ws18_98 : iI s18 98 = iI s 98 := fm_iq Fs18 rfl
  have ws18_28 : iI s18 28 = iI s 28 := fm_iq Fs18 rfl
  have ws18_97 : iI s18 97 = iI s 97 := fm_iq Fs18 rfl
  have ws18_32 : iI s18 32 = iI s 32 := fm_iq Fs18 rfl
  have ws18_99 : iI s18 99 = iI s 99 := fm_iq Fs18 rfl
  have ws18_70 : iI s18 70 = iI s 70 := fm_iq Fs18 rfl
  have ws18_107 : iI s18 107 = iI s 107 := fm_iq Fs18 rfl
  have ws18_12 : iI s18 12 = iI s 12 := fm_iq Fs18 rfl
  have ws18_83 : iI s18 83 = iI s 83 := fm_iq Fs18 rfl
  have ws18_12 : iI s18 12 = iI s 12 := fm_iq Fs18 rfl
  have ws18_89 : iI s18 89 = iI s 89 := fm_iq Fs18 rfl
  show WS k 1005 [(0, .ref q1), (1, .ref (A 0)), (2, .ref (A 179)), (3, .ref (A 517)), (4, .int (Int32.ofInt i))] [.int (Int32.ofInt e19)] (Wd A dT s18) (ce + 1) (sl + 6)
  refine z_store X (lv' := [(5, .int (Int32.ofInt e19)), (0, .ref q1), (1, .ref (A 0)), (2, .ref (A 179)), (3, .ref (A 517)), (4, .int (Int32.ofInt i))]) rfl (by decide) (fun _ h => h) (z_aload_n X (x := A 179) rfl (List.Mem.tail _ (List.Mem.tail _ (List.Mem.tail _ (List.Mem.head _)))) (z_aload_n X (x := q1) rfl (List.Mem.tail _ (List.Mem.head _)) (z_load X (x := i) rfl (List.Mem.tail _ (List.Mem.tail _ (List.Mem.tail _ (List.Mem.tail _ (List.Mem.tail _ (List.Mem.head _)))))) (z_const X rfl (z_add X rfl (z_sld X S hL rfl (show 0 ≤ (i + 1) ∧ (i + 1) < (L : Int) by first | exact sx_in hi (by decide) | omega) ?_))))))
  have sr20 : rng (sc xs (i + 1)) := sc_rng
  refine z_callV X 179 (rm := rmN 257) (As := [.int (Int32.ofInt (sc xs (i + 1)))]) (st := []) rfl rfl (by decide) rfl (by rw [E.1, E.2.1, E.2.2.1]; exact k_grow3 G Is18 JRLx_s18 JMDJ_s18 (by first | exact ⟨sr20.1, sr20.2⟩ | omega) (by first | exact oq_b44a1c7f ws18_89 p1 b16.1 | omega)) ⟨by rw [E.2.2.2]; exact (show 42 + 1 ≤ 2048 from oq_38aede7b), by rw [E.2.2.2]; exact (show 8 + (3 + 11) + 1687 ≤ 84000 from oq_e190c71b), by rw [E.2.2.2]; exact (show (ce + 1) + 0 ≤ 601024 by first | (clear hps18; omega) | omega), by rw [E.2.2.2]; exact (show (sl + 6) + 0 ≤ 7293034 by first | (clear hps18; omega) | omega)⟩ (Nat.le_of_ble_eq_true rfl) (fun vv s21 hq => ?_) (fun ee s21 hq => ?_)
  rotate_left
  · obtain ⟨Is21, Fs21, JRLx_s21, e22, hv, hrs21, hps21⟩ := hq; cases hv
  obtain ⟨Is21, Fs21, JRLx_s21, e22, hv, hrs21, hps21⟩ := hq
  cases hv
  have JRLx_s21 : RLx s21 := RLx_fm Fs21 (by decide) JRLx_s18
  have JFEQ_s21 : FEQ s21 := FEQ_fm Fs21 (by decide) JFEQ_s18
  have JREQ_s21 : REQ 39 234 28 s21 := REQ_fm Fs21 (by decide) JREQ_s18
  have JSEQ_s21 : SEQ s21 := SEQ_fm Fs21 (by decide) JSEQ_s18
  have JARJ_s21 : ARJ s21 := ARJ_fm Fs21 ⟨by decide +kernel, by decide +kernel, by decide +kernel, by decide +kernel, by decide +kernel, by decide +kernel, by decide +kernel, by decide +kernel⟩ JARJ_s18
  have JALJ_s21 : AEQ 24 229 8 s21 := ALJ_fm Fs21 (by decide) JALJ_s18
  have JMKJ_s21 : MKJ s21 := MKJ_fm Fs21 (by decide +kernel) JMKJ_s18
  have JPMJ_s21 : PMJ s21 := PMJ_fm Fs21 (by decide +kernel) JPMJ_s18
  have ws21_0 : iI s21 0 = iI s18 0 := fm_iq Fs21 rfl
  have ws21_74 : iI s21 74 = iI s18 74 := fm_iq Fs21 rfl
  have ws21_9 : iI s21 9 = iI s18 9 := fm_iq Fs21 rfl
  have ws21_90 : iI s21 90 = iI s18 90 := fm_iq Fs21 rfl
  have ws21_20 : iI s21 20 = iI s18 20 := fm_iq Fs21 rfl
  have ws21_98 : iI s21 98 = iI s18 98 := fm_iq Fs21 rfl
  have ws21_28 : iI s21 28 = iI s18 28 := fm_iq Fs21 rfl
  have ws21_97 : iI s21 97 = iI s18 97 := fm_iq Fs21 rfl
  have ws21_32 : iI s21 32 = iI s18 32 := fm_iq Fs21 rfl
  have ws21_99 : iI s21 99 = iI s18 99 := fm_iq Fs21 rfl
  have ws21_70 : iI s21 70 = iI s18 70 := fm_iq Fs21 rfl
  have ws21_107 : iI s21 107 = iI s18 107 := fm_iq Fs21 rfl
  have ws21_12 : iI s21 12 = iI s18 12 := fm_iq Fs21 rfl
  have ws21_83 : iI s21 83 = iI s18 83 := fm_iq Fs21 rfl
  have ws21_12 : iI s21 12 = iI s18 12 := fm_iq Fs21 rfl
  have ws21_89 : iI s21 89 = iI s18 89 := fm_iq Fs21 rfl
  have wos21 : iO s21 = iO s18 := fm_o Fs21 (by decide)
  show WS k 1017 [(5, .int (Int32.ofInt e19)), (0, .ref q1), (1, .ref (A 0)), (2, .ref (A 179)), (3, .ref (A 517)), (4, .int (Int32.ofInt i))] [.int (Int32.ofInt e22)] (Wd A dT s21) (ce + 1) (sl + 6)
  rcases hps18 with cc | cc
  ·
    rcases hps21 with mm | mm
    ·
      have hAP := apj_gre jPTJ.2.1 jPTJ.2.2.1 jARJ.2.2.2.2.2.1 hU1 (fun j hj => I.2 21 j hj) cc.2.2.2 mm.2.2.2.2 (sam_fm Fs18 (by decide +kernel)) (sam_fm Fs21 (by decide +kernel)) (sam_fm Fs18 (by decide +kernel))
      have rq23 := hAP.1
      have jb24 : PTJ s21 := ⟨JPMJ_s21, hAP.2, JALJ_s21, JMKJ_s21⟩
      refine z_store X (lv' := [(6, .int (Int32.ofInt e22)), (5, .int (Int32.ofInt e19)), (0, .ref q1), (1, .ref (A 0)), (2, .ref (A 179)), (3, .ref (A 517)), (4, .int (Int32.ofInt i))]) rfl (by decide) (fun _ h => h) (z_goto X (t := 1866) rfl rfl (w_widen (ce' := ce + 29) (sl' := sl + 222) (by first | exact Nat.le_add_right _ _ | exact Nat.add_le_add_left (by decide) _ | omega) (by first | exact Nat.le_add_right _ _ | exact Nat.add_le_add_left (by decide) _ | omega) ?_))
      exact WS_lv (lv := [(0, .ref q1), (1, .ref (A 0)), (2, .ref (A 179)), (3, .ref (A 517)), (4, .int (Int32.ofInt i))]) (List.forall_mem_cons.mpr ⟨(List.Mem.tail _ (List.Mem.tail _ (List.Mem.head _))), (List.forall_mem_cons.mpr ⟨(List.Mem.tail _ (List.Mem.tail _ (List.Mem.tail _ (List.Mem.head _)))), (List.forall_mem_cons.mpr ⟨(List.Mem.tail _ (List.Mem.tail _ (List.Mem.tail _ (List.Mem.tail _ (List.Mem.head _))))), (List.forall_mem_cons.mpr ⟨(List.Mem.tail _ (List.Mem.tail _ (List.Mem.tail _ (List.Mem.tail _ (List.Mem.tail _ (List.Mem.head _)))))), (List.forall_mem_cons.mpr ⟨(List.Mem.tail _ (List.Mem.tail _ (List.Mem.tail _ (List.Mem.tail _ (List.Mem.tail _ (List.Mem.tail _ (List.Mem.head _))))))), (fun q h => absurd h List.not_mem_nil)⟩)⟩)⟩)⟩)⟩) (hk A _ Is21 JRLx_s21 JFEQ_s21 JREQ_s21 JSEQ_s21 JARJ_s21 jb24 (by first | exact oq_f34933ba ws21_89 ws18_89 p1 b16.1 | omega) (by first | exact oq_d7ce4408 ws21_12 ws18_12 p2 | omega) (by first | exact oq_5bcdc35f ws21_74 ws21_0 ws18_74 ws18_0 p3 | omega) (by first | exact oq_5bcdc35f ws21_90 ws21_9 ws18_90 ws18_9 p4 | omega) (by first | exact oq_5bcdc35f ws21_98 ws21_20 ws18_98 ws18_20 p5 | omega) (by first | exact oq_5bcdc35f ws21_97 ws21_28 ws18_97 ws18_28 p6 | omega) (by first | exact oq_5bcdc35f ws21_99 ws21_32 ws18_99 ws18_32 p7 | omega) (by first | exact oq_5bcdc35f ws21_107 ws21_70 ws18_107 ws18_70 p8 | omega) (by first | exact oq_5bc06b03 ws21_83 ws21_12 ws18_83 p9 ws18_12 | omega))
    ·
      exfalso
      omega
  ·
    rcases hps21 with mm | mm
    ·
      exfalso
      omega
    ·
      have jb25 : PTJ s21 := ⟨JPMJ_s21, aeq_sam jPTJ.2.1 (sam_ts cc.2.2 (sam_fm Fs21 (by decide +kernel))) (sam_ts (sam_fm Fs18 (by decide +kernel)) mm.2.2.1), JALJ_s21, JMKJ_s21⟩
      refine z_store X (lv' := [(6, .int (Int32.ofInt e22)), (5, .int (Int32.ofInt e19)), (0, .ref q1), (1, .ref (A 0)), (2, .ref (A 179)), (3, .ref (A 517)), (4, .int (Int32.ofInt i))]) rfl (by decide) (fun _ h => h) (z_goto X (t := 1866) rfl rfl (w_widen (ce' := ce + 29) (sl' := sl + 222) (by first | exact Nat.le_add_right _ _ | exact Nat.add_le_add_left (by decide) _ | omega) (by first | exact Nat.le_add_right _ _ | exact Nat.add_le_add_left (by decide) _ | omega) ?_))
      exact WS_lv (lv := [(0, .ref q1), (1, .ref (A 0)), (2, .ref (A 179)), (3, .ref (A 517)), (4, .int (Int32.ofInt i))]) (List.forall_mem_cons.mpr ⟨(List.Mem.tail _ (List.Mem.tail _ (List.Mem.head _))), (List.forall_mem_cons.mpr ⟨(List.Mem.tail _ (List.Mem.tail _ (List.Mem.tail _ (List.Mem.head _)))), (List.forall_mem_cons.mpr ⟨(List.Mem.tail _ (List.Mem.tail _ (List.Mem.tail _ (List.Mem.tail _ (List.Mem.head _))))), (List.forall_mem_cons.mpr ⟨(List.Mem.tail _ (List.Mem.tail _ (List.Mem.tail _ (List.Mem.tail _ (List.Mem.tail _ (List.Mem.head _)))))), (List.forall_mem_cons.mpr ⟨(List.Mem.tail _ (List.Mem.tail _ (List.Mem.tail _ (List.Mem.tail _ (List.Mem.tail _ (List.Mem.tail _ (List.Mem.head _))))))), (fun q h => absurd h List.not_mem_nil)⟩)⟩)⟩)⟩)⟩) (hk A _ Is21 JRLx_s21 JFEQ_s21 JREQ_s21 JSEQ_s21 JARJ_s21 jb25 (by first | exact oq_f34933ba ws21_89 ws18_89 p1 b16.1 | omega) (by first | exact oq_d7ce4408 ws21_12 ws18_12 p2 | omega) (by first | exact oq_5bcdc35f ws21_74 ws21_0 ws18_74 ws18_0 p3 | omega) (by first | exact oq_5bcdc35f ws21_90 ws21_9 ws18_90 ws18_9 p4 | omega) (by first | exact oq_5bcdc35f ws21_98 ws21_20 ws18_98 ws18_20 p5 | omega) (by first | exact oq_5bcdc35f ws21_97 ws21_28 ws18_97 ws18_28 p6 | omega) (by first | exact oq_5bcdc35f ws21_99 ws21_32 ws18_99 ws18_32 p7 | omega) (by first | exact oq_5bcdc35f ws21_107 ws21_70 ws18_107 ws18_70 p8 | omega) (by first | exact oq_5bc06b03 ws21_83 ws21_12 ws18_83 p9 ws18_12 | omega))
theorem lc_22 (G : GX l s0 D tys a0 dT) (GR : RS0 s0) (SF : SF0 s0) (GT : TXs0 s0) (GW : TXw0 s0) {k : kx_T} (X : AX k 350 dT) (E : kL k = l ∧ kS0 k = s0 ∧ kD k = D ∧ kR k = room_1) {q1 L : Nat} {xs : Nat → Int32} (S : SX k q1 L xs) (hL : L ≤ 3072) (I : Bd s) (jR : RLx s) (jFEQ : FEQ s) (jREQ : REQ 39 234 28 s) (jSEQ : SEQ s) (jARJ : ARJ s) (jPTJ : PTJ s) (p1 : iI s 89 = 1) (p2 : iI s 12 ≤ 8) (p3 : iI s 0 = iI s 74) (p4 : iI s 9 = iI s 90) (p5 : iI s 20 = iI s 98) (p6 : iI s 28 = iI s 97) (p7 : iI s 32 = iI s 99) (p8 : iI s 70 = iI s 107) (p9 : iI s 12 = iI s 83) {i : Int} (hi : 0 ≤ i ∧ i + 6 ≤ (L : Int)) {ce sl : Nat} (hce : ce + 29 ≤ 601024) (hsl : sl + 222 ≤ 7293034) (hk : ∀ (A : Nat → Nat) (t : PS), Bd t → RLx t → FEQ t → REQ 39 234 28 t → SEQ t → ARJ t → PTJ t → iI t 89 = 1 → iI t 12 ≤ 8 → iI t 0 = iI t 74 → iI t 9 = iI t 90 → iI t 20 = iI t 98 → iI t 28 = iI t 97 → iI t 32 = iI t 99 → iI t 70 = iI t 107 → iI t 12 = iI t 83 → WS k 1866 [(0, .ref q1), (1, .ref (A 0)), (2, .ref (A 179)), (3, .ref (A 517)), (4, .int (Int32.ofInt i))] [] (Wd A dT t) (ce + 29) (sl + 222)) : WS k 1022 [(0, .ref q1), (1, .ref (A 0)), (2, .ref (A 179)), (3, .ref (A 517)), (4, .int (Int32.ofInt i))] [] (Wd A dT s) ce sl := by
  have F : Fm [28, 73, 97] [39, 1460, 234] s s := fm_rf _ _ s
  have b1 := bi_0 I
  have b2 := bi_74 I
  have b3 := bi_9 I
  have b4 := bi_90 I
  have b5 := bi_20 I
  have b6 := bi_98 I
  have b7 := bi_28 I
  have b8 := bi_97 I
  have b9 := bi_32 I
  have b10 := bi_99 I
  have b11 := bi_70 I
  have b12 := bi_107 I
  have b13 := bi_12 I
  have b14 := bi_83 I
  have b15 := bi_12 I
  have b16 := bi_89 I
  refine z_aload_n X (x := A 0) rfl (List.Mem.tail _ (List.Mem.head _)) (z_aload_n X (x := q1) rfl (List.Mem.head _) (z_load X (x := i) rfl (List.Mem.tail _ (List.Mem.tail _ (List.Mem.tail _ (List.Mem.tail _ (List.Mem.head _))))) (z_const X rfl (z_add X rfl (z_sld X S hL rfl (show 0 ≤ (i + 1) ∧ (i + 1) < (L : Int) by first | exact sx_in hi (by decide) | omega) ?_)))))
  have sr17 : rng (sc xs (i + 1)) := sc_rng
  refine z_aload_n X (x := A 517) rfl (List.Mem.tail _ (List.Mem.tail _ (List.Mem.tail _ (List.Mem.head _)))) (z_callL X (rm := rmN 332) (As := [.ref (A 0), .int (Int32.ofInt (sc xs (i + 1))), .ref (A 517)]) (st := []) rfl (by decide) rfl (by rw [E.1, E.2.1, E.2.2.1]; exact lw_region2 G I (by omega)) ⟨by rw [E.2.2.2]; exact (show 8 + 1 ≤ 2048 by decide), by rw [E.2.2.2]; exact (show 8 + (4 + 11) + 143 ≤ 84000 by decide), by rw [E.2.2.2]; exact (show ce + 1 ≤ 601024 by first | exact rmo_1 hce (by decide) | exact rmo_2 hce (by decide) | omega), by rw [E.2.2.2]; exact (show sl + 6 ≤ 7293034 by first | exact rmo_1 hsl (by decide) | exact rmo_2 hsl (by decide) | omega)⟩ (Nat.le_of_ble_eq_true rfl) (fun vv A s18 hA2 hq => ?_) (fun ee A s18 hA2 hq => ?_))
  rotate_left
  · obtain ⟨Is18, Fs18, e19, hv, hrs18, hps18⟩ := hq; cases hv
  obtain ⟨Is18, Fs18, e19, hv, hrs18, hps18⟩ := hq
  cases hv
  rw [← hA2 0 (by decide)]
  rw [← hA2 179 (by decide)]
  rw [← hA2 517 (by decide)]
  have JRLx_s18 : RLx s18 := RLx_fm Fs18 (by decide) jR
  have JFEQ_s18 : FEQ s18 := FEQ_fm Fs18 (by decide) jFEQ
  have JSEQ_s18 : SEQ s18 := SEQ_fm Fs18 (by decide) jSEQ
  have JARJ_s18 : ARJ s18 := ARJ_fm Fs18 ⟨by decide +kernel, by decide +kernel, by decide +kernel, by decide +kernel, by decide +kernel, by decide +kernel, by decide +kernel, by decide +kernel⟩ jARJ
  have JPTJ_s18 : PTJ s18 := PTJ_fm Fs18 (by decide +kernel) jPTJ
  have ws18_0 : iI s18 0 = iI s 0 := fm_iq Fs18 rfl
  have ws18_74 : iI s18 74 = iI s 74 := fm_iq Fs18 rfl
  have ws18_9 : iI s18 9 = iI s 9 := fm_iq Fs18 rfl
  have ws18_90 : iI s18 90 = iI s 90 := fm_iq Fs18 rfl
  have ws18_20 : iI s18 20 = iI s 20 := fm_iq Fs18 rfl
  have ws18_98 : iI s18 98 = iI s 98 := fm_iq Fs18 rfl
  have b20 := bi_28 Is18
  have ws18_97 : iI s18 97 = iI s 97 := fm_iq Fs18 rfl
  have ws18_32 : iI s18 32 = iI s 32 := fm_iq Fs18 rfl
  have ws18_99 : iI s18 99 = iI s 99 := fm_iq Fs18 rfl
  have ws18_70 : iI s18 70 = iI s 70 := fm_iq Fs18 rfl
  have ws18_107 : iI s18 107 = iI s 107 := fm_iq Fs18 rfl
  have ws18_12 : iI s18 12 = iI s 12 := fm_iq Fs18 rfl
  have ws18_83 : iI s18 83 = iI s 83 := fm_iq Fs18 rfl
  have ws18_12 : iI s18 12 = iI s 12 := fm_iq Fs18 rfl
  have ws18_89 : iI s18 89 = iI s 89 := fm_iq Fs18 rfl
  show WS k 1033 [(0, .ref q1), (1, .ref (A 0)), (2, .ref (A 179)), (3, .ref (A 517)), (4, .int (Int32.ofInt i))] [.int (Int32.ofInt e19)] (Wd A dT s18) (ce + 1) (sl + 6)
  refine z_store X (lv' := [(5, .int (Int32.ofInt e19)), (0, .ref q1), (1, .ref (A 0)), (2, .ref (A 179)), (3, .ref (A 517)), (4, .int (Int32.ofInt i))]) rfl (by decide) (fun _ h => h) (z_aload_n X (x := A 179) rfl (List.Mem.tail _ (List.Mem.tail _ (List.Mem.tail _ (List.Mem.head _)))) (z_aload_n X (x := q1) rfl (List.Mem.tail _ (List.Mem.head _)) (z_load X (x := i) rfl (List.Mem.tail _ (List.Mem.tail _ (List.Mem.tail _ (List.Mem.tail _ (List.Mem.tail _ (List.Mem.head _)))))) (z_const X rfl (z_add X rfl (z_sld X S hL rfl (show 0 ≤ (i + 1) ∧ (i + 1) < (L : Int) by first | exact sx_in hi (by decide) | omega) ?_))))))
  have sr21 : rng (sc xs (i + 1)) := sc_rng
  refine z_callV X 179 (rm := rmN 258) (As := [.int (Int32.ofInt (sc xs (i + 1)))]) (st := []) rfl rfl (by decide) rfl (by rw [E.1, E.2.1, E.2.2.1]; exact k_region2 G Is18 (by first | exact ⟨sr21.1, sr21.2⟩ | omega)) ⟨by rw [E.2.2.2]; exact (show 7 + 1 ≤ 2048 from oq_4e6106eb), by rw [E.2.2.2]; exact (show 8 + (3 + 11) + 122 ≤ 84000 from oq_38d194b9), by rw [E.2.2.2]; exact (show (ce + 1) + 0 ≤ 601024 by first | (clear hps18; omega) | omega), by rw [E.2.2.2]; exact (show (sl + 6) + 0 ≤ 7293034 by first | (clear hps18; omega) | omega)⟩ (Nat.le_of_ble_eq_true rfl) (fun vv s22 hq => ?_) (fun ee s22 hq => ?_)
  rotate_left
  · obtain ⟨Is22, Fs22, e23, hv, hrs22, hps22⟩ := hq; cases hv
  obtain ⟨Is22, Fs22, e23, hv, hrs22, hps22⟩ := hq
  cases hv
  have JRLx_s22 : RLx s22 := RLx_fm Fs22 (by decide) JRLx_s18
  have JFEQ_s22 : FEQ s22 := FEQ_fm Fs22 (by decide) JFEQ_s18
  have JSEQ_s22 : SEQ s22 := SEQ_fm Fs22 (by decide) JSEQ_s18
  have JARJ_s22 : ARJ s22 := ARJ_fm Fs22 ⟨by decide +kernel, by decide +kernel, by decide +kernel, by decide +kernel, by decide +kernel, by decide +kernel, by decide +kernel, by decide +kernel⟩ JARJ_s18
  have JPTJ_s22 : PTJ s22 := PTJ_fm Fs22 (by decide +kernel) JPTJ_s18
  have ws22_0 : iI s22 0 = iI s18 0 := fm_iq Fs22 rfl
  have ws22_74 : iI s22 74 = iI s18 74 := fm_iq Fs22 rfl
  have ws22_9 : iI s22 9 = iI s18 9 := fm_iq Fs22 rfl
  have ws22_90 : iI s22 90 = iI s18 90 := fm_iq Fs22 rfl
  have ws22_20 : iI s22 20 = iI s18 20 := fm_iq Fs22 rfl
  have ws22_98 : iI s22 98 = iI s18 98 := fm_iq Fs22 rfl
  have ws22_28 : iI s22 28 = iI s18 28 := fm_iq Fs22 rfl
  have b24 := bi_97 Is22
  have ws22_32 : iI s22 32 = iI s18 32 := fm_iq Fs22 rfl
  have ws22_99 : iI s22 99 = iI s18 99 := fm_iq Fs22 rfl
  have ws22_70 : iI s22 70 = iI s18 70 := fm_iq Fs22 rfl
  have ws22_107 : iI s22 107 = iI s18 107 := fm_iq Fs22 rfl
  have ws22_12 : iI s22 12 = iI s18 12 := fm_iq Fs22 rfl
  have ws22_83 : iI s22 83 = iI s18 83 := fm_iq Fs22 rfl
  have ws22_12 : iI s22 12 = iI s18 12 := fm_iq Fs22 rfl
  have ws22_89 : iI s22 89 = iI s18 89 := fm_iq Fs22 rfl
  have wos22 : iO s22 = iO s18 := fm_o Fs22 (by decide)
  show WS k 1045 [(5, .int (Int32.ofInt e19)), (0, .ref q1), (1, .ref (A 0)), (2, .ref (A 179)), (3, .ref (A 517)), (4, .int (Int32.ofInt i))] [.int (Int32.ofInt e23)] (Wd A dT s22) (ce + 1) (sl + 6)
  rcases hps18 with cc | cc | cc | cc
  ·
    rcases hps22 with mm | mm | mm | mm
    ·
      have jq25 : REQ 39 234 28 s22 := req_sam jREQ (sam_ts cc.2.2.2 (sam_fm Fs22 (by decide))) (sam_ts (sam_fm Fs18 (by decide)) mm.2.2.2) (by first | (clear hps22 hps18; omega) | (clear hps18; omega) | omega)
      refine z_store X (lv' := [(6, .int (Int32.ofInt e23)), (5, .int (Int32.ofInt e19)), (0, .ref q1), (1, .ref (A 0)), (2, .ref (A 179)), (3, .ref (A 517)), (4, .int (Int32.ofInt i))]) rfl (by decide) (fun _ h => h) (z_goto X (t := 1866) rfl rfl (w_widen (ce' := ce + 29) (sl' := sl + 222) (by first | exact Nat.le_add_right _ _ | exact Nat.add_le_add_left (by decide) _ | omega) (by first | exact Nat.le_add_right _ _ | exact Nat.add_le_add_left (by decide) _ | omega) ?_))
      exact WS_lv (lv := [(0, .ref q1), (1, .ref (A 0)), (2, .ref (A 179)), (3, .ref (A 517)), (4, .int (Int32.ofInt i))]) (List.forall_mem_cons.mpr ⟨(List.Mem.tail _ (List.Mem.tail _ (List.Mem.head _))), (List.forall_mem_cons.mpr ⟨(List.Mem.tail _ (List.Mem.tail _ (List.Mem.tail _ (List.Mem.head _)))), (List.forall_mem_cons.mpr ⟨(List.Mem.tail _ (List.Mem.tail _ (List.Mem.tail _ (List.Mem.tail _ (List.Mem.head _))))), (List.forall_mem_cons.mpr ⟨(List.Mem.tail _ (List.Mem.tail _ (List.Mem.tail _ (List.Mem.tail _ (List.Mem.tail _ (List.Mem.head _)))))), (List.forall_mem_cons.mpr ⟨(List.Mem.tail _ (List.Mem.tail _ (List.Mem.tail _ (List.Mem.tail _ (List.Mem.tail _ (List.Mem.tail _ (List.Mem.head _))))))), (fun q h => absurd h List.not_mem_nil)⟩)⟩)⟩)⟩)⟩) (hk A _ Is22 JRLx_s22 JFEQ_s22 jq25 JSEQ_s22 JARJ_s22 JPTJ_s22 (by first | exact oq_f34933ba ws22_89 ws18_89 p1 b16.1 | omega) (by first | exact oq_d7ce4408 ws22_12 ws18_12 p2 | omega) (by first | exact oq_5bcdc35f ws22_74 ws22_0 ws18_74 ws18_0 p3 | omega) (by first | exact oq_5bcdc35f ws22_90 ws22_9 ws18_90 ws18_9 p4 | omega) (by first | exact oq_5bcdc35f ws22_98 ws22_20 ws18_98 ws18_20 p5 | omega) (by first | (clear hps22 hps18; omega) | (clear hps18; omega) | omega) (by first | exact oq_5bcdc35f ws22_99 ws22_32 ws18_99 ws18_32 p7 | omega) (by first | exact oq_5bcdc35f ws22_107 ws22_70 ws18_107 ws18_70 p8 | omega) (by first | exact oq_5bc06b03 ws22_83 ws22_12 ws18_83 p9 ws18_12 | omega))
    ·
      exfalso
      omega
    ·
      exfalso
      omega
    ·
      exfalso
      omega
  ·
    rcases hps22 with mm | mm | mm | mm
    ·
      exfalso
      omega
    ·
      have jq26 : REQ 39 234 28 s22 := req_sam jREQ (sam_ts cc.2.2.2.2.2.2 (sam_fm Fs22 (by decide))) (sam_ts (sam_fm Fs18 (by decide)) mm.2.2.2.2.2.2) (by first | (clear hps22 hps18; omega) | (clear hps18; omega) | omega)
      refine z_store X (lv' := [(6, .int (Int32.ofInt e23)), (5, .int (Int32.ofInt e19)), (0, .ref q1), (1, .ref (A 0)), (2, .ref (A 179)), (3, .ref (A 517)), (4, .int (Int32.ofInt i))]) rfl (by decide) (fun _ h => h) (z_goto X (t := 1866) rfl rfl (w_widen (ce' := ce + 29) (sl' := sl + 222) (by first | exact Nat.le_add_right _ _ | exact Nat.add_le_add_left (by decide) _ | omega) (by first | exact Nat.le_add_right _ _ | exact Nat.add_le_add_left (by decide) _ | omega) ?_))
      exact WS_lv (lv := [(0, .ref q1), (1, .ref (A 0)), (2, .ref (A 179)), (3, .ref (A 517)), (4, .int (Int32.ofInt i))]) (List.forall_mem_cons.mpr ⟨(List.Mem.tail _ (List.Mem.tail _ (List.Mem.head _))), (List.forall_mem_cons.mpr ⟨(List.Mem.tail _ (List.Mem.tail _ (List.Mem.tail _ (List.Mem.head _)))), (List.forall_mem_cons.mpr ⟨(List.Mem.tail _ (List.Mem.tail _ (List.Mem.tail _ (List.Mem.tail _ (List.Mem.head _))))), (List.forall_mem_cons.mpr ⟨(List.Mem.tail _ (List.Mem.tail _ (List.Mem.tail _ (List.Mem.tail _ (List.Mem.tail _ (List.Mem.head _)))))), (List.forall_mem_cons.mpr ⟨(List.Mem.tail _ (List.Mem.tail _ (List.Mem.tail _ (List.Mem.tail _ (List.Mem.tail _ (List.Mem.tail _ (List.Mem.head _))))))), (fun q h => absurd h List.not_mem_nil)⟩)⟩)⟩)⟩)⟩) (hk A _ Is22 JRLx_s22 JFEQ_s22 jq26 JSEQ_s22 JARJ_s22 JPTJ_s22 (by first | exact oq_f34933ba ws22_89 ws18_89 p1 b16.1 | omega) (by first | exact oq_d7ce4408 ws22_12 ws18_12 p2 | omega) (by first | exact oq_5bcdc35f ws22_74 ws22_0 ws18_74 ws18_0 p3 | omega) (by first | exact oq_5bcdc35f ws22_90 ws22_9 ws18_90 ws18_9 p4 | omega) (by first | exact oq_5bcdc35f ws22_98 ws22_20 ws18_98 ws18_20 p5 | omega) (by first | (clear hps22 hps18; omega) | (clear hps18; omega) | omega) (by first | exact oq_5bcdc35f ws22_99 ws22_32 ws18_99 ws18_32 p7 | omega) (by first | exact oq_5bcdc35f ws22_107 ws22_70 ws18_107 ws18_70 p8 | omega) (by first | exact oq_5bc06b03 ws22_83 ws22_12 ws18_83 p9 ws18_12 | omega))
    ·
      exfalso
      omega
    ·
      exfalso
      omega
  ·
    rcases hps22 with mm | mm | mm | mm
    ·
      exfalso
      omega
    ·
      exfalso
      omega
    ·
      have jq27 : REQ 39 234 28 s22 := req_sam jREQ (sam_ts cc.2.2.2.2.2.2.2 (sam_fm Fs22 (by decide))) (sam_ts (sam_fm Fs18 (by decide)) mm.2.2.2.2.2.2.2) (by first | (clear hps22 hps18; omega) | (clear hps18; omega) | omega)
      refine z_store X (lv' := [(6, .int (Int32.ofInt e23)), (5, .int (Int32.ofInt e19)), (0, .ref q1), (1, .ref (A 0)), (2, .ref (A 179)), (3, .ref (A 517)), (4, .int (Int32.ofInt i))]) rfl (by decide) (fun _ h => h) (z_goto X (t := 1866) rfl rfl (w_widen (ce' := ce + 29) (sl' := sl + 222) (by first | exact Nat.le_add_right _ _ | exact Nat.add_le_add_left (by decide) _ | omega) (by first | exact Nat.le_add_right _ _ | exact Nat.add_le_add_left (by decide) _ | omega) ?_))
      exact WS_lv (lv := [(0, .ref q1), (1, .ref (A 0)), (2, .ref (A 179)), (3, .ref (A 517)), (4, .int (Int32.ofInt i))]) (List.forall_mem_cons.mpr ⟨(List.Mem.tail _ (List.Mem.tail _ (List.Mem.head _))), (List.forall_mem_cons.mpr ⟨(List.Mem.tail _ (List.Mem.tail _ (List.Mem.tail _ (List.Mem.head _)))), (List.forall_mem_cons.mpr ⟨(List.Mem.tail _ (List.Mem.tail _ (List.Mem.tail _ (List.Mem.tail _ (List.Mem.head _))))), (List.forall_mem_cons.mpr ⟨(List.Mem.tail _ (List.Mem.tail _ (List.Mem.tail _ (List.Mem.tail _ (List.Mem.tail _ (List.Mem.head _)))))), (List.forall_mem_cons.mpr ⟨(List.Mem.tail _ (List.Mem.tail _ (List.Mem.tail _ (List.Mem.tail _ (List.Mem.tail _ (List.Mem.tail _ (List.Mem.head _))))))), (fun q h => absurd h List.not_mem_nil)⟩)⟩)⟩)⟩)⟩) (hk A _ Is22 JRLx_s22 JFEQ_s22 jq27 JSEQ_s22 JARJ_s22 JPTJ_s22 (by first | exact oq_f34933ba ws22_89 ws18_89 p1 b16.1 | omega) (by first | exact oq_d7ce4408 ws22_12 ws18_12 p2 | omega) (by first | exact oq_5bcdc35f ws22_74 ws22_0 ws18_74 ws18_0 p3 | omega) (by first | exact oq_5bcdc35f ws22_90 ws22_9 ws18_90 ws18_9 p4 | omega) (by first | exact oq_5bcdc35f ws22_98 ws22_20 ws18_98 ws18_20 p5 | omega) (by first | (clear hps22 hps18; omega) | (clear hps18; omega) | omega) (by first | exact oq_5bcdc35f ws22_99 ws22_32 ws18_99 ws18_32 p7 | omega) (by first | exact oq_5bcdc35f ws22_107 ws22_70 ws18_107 ws18_70 p8 | omega) (by first | exact oq_5bc06b03 ws22_83 ws22_12 ws18_83 p9 ws18_12 | omega))
    ·
      exact (req_no jREQ (sam_fm Fs18 (by decide)) cc.2.2.2.2.2.2.1 mm.2.2.2.2.2.2.1 (by first | (clear hps22 hps18; omega) | (clear hps18; omega) | omega) (by first | (clear hps22 hps18; omega) | (clear hps18; omega) | omega)).elim
  ·
    rcases hps22 with mm | mm | mm | mm
    ·
      exfalso
      omega
    ·
      exfalso
      omega
    ·
      exact (req_no2 jREQ (sam_fm Fs18 (by decide)) cc.2.2.2.2.2.2.1 mm.2.2.2.2.2.2.1 (by first | (clear hps22 hps18; omega) | (clear hps18; omega) | omega) (by first | (clear hps22 hps18; omega) | (clear hps18; omega) | omega)).elim
    ·
      have jq28 : REQ 39 234 28 s22 := req_upd jREQ cc.2.2.2.2.2.2.2 (sam_fm Fs18 (by decide)) mm.2.2.2.2.2.2.2 (sam_fm Fs22 (by decide)) (by first | (clear hps22 hps18; omega) | (clear hps18; omega) | omega) (by first | (clear hps22 hps18; omega) | (clear hps18; omega) | omega) (by first | (clear hps22 hps18; omega) | (clear hps18; omega) | omega) (by first | (clear hps22 hps18; omega) | (clear hps18; omega) | omega)
      refine z_store X (lv' := [(6, .int (Int32.ofInt e23)), (5, .int (Int32.ofInt e19)), (0, .ref q1), (1, .ref (A 0)), (2, .ref (A 179)), (3, .ref (A 517)), (4, .int (Int32.ofInt i))]) rfl (by decide) (fun _ h => h) (z_goto X (t := 1866) rfl rfl (w_widen (ce' := ce + 29) (sl' := sl + 222) (by first | exact Nat.le_add_right _ _ | exact Nat.add_le_add_left (by decide) _ | omega) (by first | exact Nat.le_add_right _ _ | exact Nat.add_le_add_left (by decide) _ | omega) ?_))
      exact WS_lv (lv := [(0, .ref q1), (1, .ref (A 0)), (2, .ref (A 179)), (3, .ref (A 517)), (4, .int (Int32.ofInt i))]) (List.forall_mem_cons.mpr ⟨(List.Mem.tail _ (List.Mem.tail _ (List.Mem.head _))), (List.forall_mem_cons.mpr ⟨(List.Mem.tail _ (List.Mem.tail _ (List.Mem.tail _ (List.Mem.head _)))), (List.forall_mem_cons.mpr ⟨(List.Mem.tail _ (List.Mem.tail _ (List.Mem.tail _ (List.Mem.tail _ (List.Mem.head _))))), (List.forall_mem_cons.mpr ⟨(List.Mem.tail _ (List.Mem.tail _ (List.Mem.tail _ (List.Mem.tail _ (List.Mem.tail _ (List.Mem.head _)))))), (List.forall_mem_cons.mpr ⟨(List.Mem.tail _ (List.Mem.tail _ (List.Mem.tail _ (List.Mem.tail _ (List.Mem.tail _ (List.Mem.tail _ (List.Mem.head _))))))), (fun q h => absurd h List.not_mem_nil)⟩)⟩)⟩)⟩)⟩) (hk A _ Is22 JRLx_s22 JFEQ_s22 jq28 JSEQ_s22 JARJ_s22 JPTJ_s22 (by first | exact oq_f34933ba ws22_89 ws18_89 p1 b16.1 | omega) (by first | exact oq_d7ce4408 ws22_12 ws18_12 p2 | omega) (by first | exact oq_5bcdc35f ws22_74 ws22_0 ws18_74 ws18_0 p3 | omega) (by first | exact oq_5bcdc35f ws22_90 ws22_9 ws18_90 ws18_9 p4 | omega) (by first | exact oq_5bcdc35f ws22_98 ws22_20 ws18_98 ws18_20 p5 | omega) (by first | (clear hps22 hps18; omega) | (clear hps18; omega) | omega) (by first | exact oq_5bcdc35f ws22_99 ws22_32 ws18_99 ws18_32 p7 | omega) (by first | exact oq_5bcdc35f ws22_107 ws22_70 ws18_107 ws18_70 p8 | omega) (by first | exact oq_5bc06b03 ws22_83 ws22_12 ws18_83 p9 ws18_12 | omega))
theorem lc_23 (G : GX l s0 D tys a0 dT) (GR : RS0 s0) (SF : SF0 s0) (GT : TXs0 s0) (GW : TXw0 s0) {k : kx_T} (X : AX k 350 dT) (E : kL k = l ∧ kS0 k = s0 ∧ kD k = D ∧ kR k = room_1) {q1 L : Nat} {xs : Nat → Int32} (S : SX k q1 L xs) (hL : L ≤ 3072) (I : Bd s) (jR : RLx s) (jFEQ : FEQ s) (jREQ : REQ 39 234 28 s) (jSEQ : SEQ s) (jARJ : ARJ s) (jPTJ : PTJ s) (p1 : iI s 89 = 1) (p2 : iI s 12 ≤ 8) (p3 : iI s 0 = iI s 74) (p4 : iI s 9 = iI s 90) (p5 : iI s 20 = iI s 98) (p6 : iI s 28 = iI s 97) (p7 : iI s 32 = iI s 99) (p8 : iI s 70 = iI s 107) (p9 : iI s 12 = iI s 83) {i : Int} (hi : 0 ≤ i ∧ i + 6 ≤ (L : Int)) {ce sl : Nat} (hce : ce + 29 ≤ 601024) (hsl : sl + 222 ≤ 7293034) (hk : ∀ (A : Nat → Nat) (t : PS), Bd t → RLx t → FEQ t → REQ 39 234 28 t → SEQ t → ARJ t → PTJ t → iI t 89 = 1 → iI t 12 ≤ 8 → iI t 0 = iI t 74 → iI t 9 = iI t 90 → iI t 20 = iI t 98 → iI t 28 = iI t 97 → iI t 32 = iI t 99 → iI t 70 = iI t 107 → iI t 12 = iI t 83 → WS k 1866 [(0, .ref q1), (1, .ref (A 0)), (2, .ref (A 179)), (3, .ref (A 517)), (4, .int (Int32.ofInt i))] [] (Wd A dT t) (ce + 29) (sl + 222)) : WS k 1050 [(0, .ref q1), (1, .ref (A 0)), (2, .ref (A 179)), (3, .ref (A 517)), (4, .int (Int32.ofInt i))] [] (Wd A dT s) ce sl := by
  have F : Fm [22, 23, 24, 31, 29, 30, 73, 77, 75, 78, 79, 80, 81, 100, 101] [33, 26, 27, 28, 29, 30, 31, 32, 20, 40, 41, 42, 45, 43, 44, 1460, 202, 204, 205, 206, 207, 208, 209, 210, 211, 212, 213, 214, 215, 216, 217, 218, 219, 220, 221, 222, 223, 224, 225, 226, 227, 203, 161, 230, 231, 232, 240, 238, 239, 236, 235] s s := fm_rf _ _ s
  have b1 := bi_0 I
  have b2 := bi_74 I
  have b3 := bi_9 I
  have b4 := bi_90 I
  have b5 := bi_20 I
  have b6 := bi_98 I
  have b7 := bi_28 I
  have b8 := bi_97 I
  have b9 := bi_32 I
  have b10 := bi_99 I
  have b11 := bi_70 I
  have b12 := bi_107 I
  have b13 := bi_12 I
  have b14 := bi_83 I
  have b15 := bi_12 I
  have b16 := bi_89 I
  refine z_aload_n X (x := A 0) rfl (List.Mem.tail _ (List.Mem.head _)) (z_aload_n X (x := q1) rfl (List.Mem.head _) (z_load X (x := i) rfl (List.Mem.tail _ (List.Mem.tail _ (List.Mem.tail _ (List.Mem.tail _ (List.Mem.head _))))) (z_const X rfl (z_add X rfl (z_sld X S hL rfl (show 0 ≤ (i + 1) ∧ (i + 1) < (L : Int) by first | exact sx_in hi (by decide) | omega) ?_)))))
  have sr17 : rng (sc xs (i + 1)) := sc_rng
  refine z_aload_n X (x := q1) rfl (List.Mem.head _) (z_load X (x := i) rfl (List.Mem.tail _ (List.Mem.tail _ (List.Mem.tail _ (List.Mem.tail _ (List.Mem.head _))))) (z_const X rfl (z_add X rfl (z_sld X S hL rfl (show 0 ≤ (i + 2) ∧ (i + 2) < (L : Int) by first | exact sx_in hi (by decide) | omega) ?_))))
  have sr18 : rng (sc xs (i + 2)) := sc_rng
  refine z_aload_n X (x := A 517) rfl (List.Mem.tail _ (List.Mem.tail _ (List.Mem.tail _ (List.Mem.head _)))) (z_callL X (rm := rmN 333) (As := [.ref (A 0), .int (Int32.ofInt (sc xs (i + 1))), .int (Int32.ofInt (sc xs (i + 2))), .ref (A 517)]) (st := []) rfl (by decide) rfl (by rw [E.1, E.2.1, E.2.2.1]; exact lw_parted G I (by omega) (by omega)) ⟨by rw [E.2.2.2]; exact (show 35 + 1 ≤ 2048 by decide), by rw [E.2.2.2]; exact (show 8 + (5 + 11) + 1468 ≤ 84000 by decide), by rw [E.2.2.2]; exact (show ce + 2 ≤ 601024 by first | exact rmo_1 hce (by decide) | exact rmo_2 hce (by decide) | omega), by rw [E.2.2.2]; exact (show sl + 12 ≤ 7293034 by first | exact rmo_1 hsl (by decide) | exact rmo_2 hsl (by decide) | omega)⟩ (Nat.le_of_ble_eq_true rfl) (fun vv A s19 hA2 hq => ?_) (fun ee A s19 hA2 hq => ?_))
  rotate_left
  · obtain ⟨Is19, Fs19, e20, hv, hrs19, hps19⟩ := hq; cases hv
  obtain ⟨Is19, Fs19, e20, hv, hrs19, hps19⟩ := hq
  cases hv
  rw [← hA2 0 (by decide)]
  rw [← hA2 179 (by decide)]
  rw [← hA2 517 (by decide)]
  have JRLx_s19 : RLx s19 := RLx_fm Fs19 (by decide) jR
  have JFEQ_s19 : FEQ s19 := FEQ_fm Fs19 (by decide) jFEQ
  have JREQ_s19 : REQ 39 234 28 s19 := REQ_fm Fs19 (by decide) jREQ
  have JSEQ_s19 : SEQ s19 := SEQ_fm Fs19 (by decide) jSEQ
  have JARJ_s19 : ARJ s19 := ARJ_fm Fs19 ⟨by decide +kernel, by decide +kernel, by decide +kernel, by decide +kernel, by decide +kernel, by decide +kernel, by decide +kernel, by decide +kernel⟩ jARJ
  have JPTJ_s19 : PTJ s19 := PTJ_fm Fs19 (by decide +kernel) jPTJ
  have ws19_0 : iI s19 0 = iI s 0 := fm_iq Fs19 rfl
  have ws19_74 : iI s19 74 = iI s 74 := fm_iq Fs19 rfl
  have ws19_9 : iI s19 9 = iI s 9 := fm_iq Fs19 rfl
  have ws19_90 : iI s19 90 = iI s 90 := fm_iq Fs19 rfl
  have ws19_20 : iI s19 20 = iI s 20 := fm_iq Fs19 rfl
  have ws19_98 : iI s19 98 = iI s 98 := fm_iq Fs19 rfl
  have ws19_28 : iI s19 28 = iI s 28 := fm_iq Fs19 rfl
  have ws19_97 : iI s19 97 = iI s 97 := fm_iq Fs19 rfl
  have ws19_32 : iI s19 32 = iI s 32 := fm_iq Fs19 rfl
  have ws19_99 : iI s19 99 = iI s 99 := fm_iq Fs19 rfl
  have ws19_70 : iI s19 70 = iI s 70 := fm_iq Fs19 rfl
  have ws19_107 : iI s19 107 = iI s 107 := fm_iq Fs19 rfl
  have ws19_12 : iI s19 12 = iI s 12 := fm_iq Fs19 rfl
  have ws19_83 : iI s19 83 = iI s 83 := fm_iq Fs19 rfl
  have ws19_12 : iI s19 12 = iI s 12 := fm_iq Fs19 rfl
  have ws19_89 : iI s19 89 = iI s 89 := fm_iq Fs19 rfl
  show WS k 1067 [(0, .ref q1), (1, .ref (A 0)), (2, .ref (A 179)), (3, .ref (A 517)), (4, .int (Int32.ofInt i))] [.int (Int32.ofInt e20)] (Wd A dT s19) (ce + 2) (sl + 12)
  refine z_store X (lv' := [(5, .int (Int32.ofInt e20)), (0, .ref q1), (1, .ref (A 0)), (2, .ref (A 179)), (3, .ref (A 517)), (4, .int (Int32.ofInt i))]) rfl (by decide) (fun _ h => h) (z_aload_n X (x := A 179) rfl (List.Mem.tail _ (List.Mem.tail _ (List.Mem.tail _ (List.Mem.head _)))) (z_aload_n X (x := q1) rfl (List.Mem.tail _ (List.Mem.head _)) (z_load X (x := i) rfl (List.Mem.tail _ (List.Mem.tail _ (List.Mem.tail _ (List.Mem.tail _ (List.Mem.tail _ (List.Mem.head _)))))) (z_const X rfl (z_add X rfl (z_sld X S hL rfl (show 0 ≤ (i + 1) ∧ (i + 1) < (L : Int) by first | exact sx_in hi (by decide) | omega) ?_))))))
  have sr21 : rng (sc xs (i + 1)) := sc_rng
  refine z_aload_n X (x := q1) rfl (List.Mem.tail _ (List.Mem.head _)) (z_load X (x := i) rfl (List.Mem.tail _ (List.Mem.tail _ (List.Mem.tail _ (List.Mem.tail _ (List.Mem.tail _ (List.Mem.head _)))))) (z_const X rfl (z_add X rfl (z_sld X S hL rfl (show 0 ≤ (i + 2) ∧ (i + 2) < (L : Int) by first | exact sx_in hi (by decide) | omega) ?_))))
  have sr22 : rng (sc xs (i + 2)) := sc_rng
  refine z_callV X 179 (rm := rmN 263) (As := [.int (Int32.ofInt (sc xs (i + 1))), .int (Int32.ofInt (sc xs (i + 2)))]) (st := []) rfl rfl (by decide) rfl (by rw [E.1, E.2.1, E.2.2.1]; exact k_parted G Is19 JRLx_s19 (by first | exact ⟨sr21.1, sr21.2⟩ | omega) (by first | exact ⟨sr22.1, sr22.2⟩ | omega)) ⟨by rw [E.2.2.2]; exact (show 38 + 1 ≤ 2048 from oq_a3fac05c), by rw [E.2.2.2]; exact (show 8 + (3 + 11) + 1601 ≤ 84000 from oq_e81fc71d), by rw [E.2.2.2]; exact (show (ce + 2) + 0 ≤ 601024 by omega), by rw [E.2.2.2]; exact (show (sl + 12) + 0 ≤ 7293034 by omega)⟩ (Nat.le_of_ble_eq_true rfl) (fun vv s23 hq => ?_) (fun ee s23 hq => ?_)
  rotate_left
  · obtain ⟨Is23, Fs23, JRLx_s23, e24, hv, hrs23, hps23⟩ := hq; cases hv
  obtain ⟨Is23, Fs23, JRLx_s23, e24, hv, hrs23, hps23⟩ := hq
  cases hv
  have JRLx_s23 : RLx s23 := RLx_fm Fs23 (by decide) JRLx_s19
  have JFEQ_s23 : FEQ s23 := FEQ_fm Fs23 (by decide) JFEQ_s19
  have JREQ_s23 : REQ 39 234 28 s23 := REQ_fm Fs23 (by decide) JREQ_s19
  have JSEQ_s23 : SEQ s23 := SEQ_fm Fs23 (by decide) JSEQ_s19
  have JARJ_s23 : ARJ s23 := ARJ_fm Fs23 ⟨by decide +kernel, by decide +kernel, by decide +kernel, by decide +kernel, by decide +kernel, by decide +kernel, by decide +kernel, by decide +kernel⟩ JARJ_s19
  have JPTJ_s23 : PTJ s23 := PTJ_fm Fs23 (by decide +kernel) JPTJ_s19
  have ws23_0 : iI s23 0 = iI s19 0 := fm_iq Fs23 rfl
  have ws23_74 : iI s23 74 = iI s19 74 := fm_iq Fs23 rfl
  have ws23_9 : iI s23 9 = iI s19 9 := fm_iq Fs23 rfl
  have ws23_90 : iI s23 90 = iI s19 90 := fm_iq Fs23 rfl
  have ws23_20 : iI s23 20 = iI s19 20 := fm_iq Fs23 rfl
  have ws23_98 : iI s23 98 = iI s19 98 := fm_iq Fs23 rfl
  have ws23_28 : iI s23 28 = iI s19 28 := fm_iq Fs23 rfl
  have ws23_97 : iI s23 97 = iI s19 97 := fm_iq Fs23 rfl
  have ws23_32 : iI s23 32 = iI s19 32 := fm_iq Fs23 rfl
  have ws23_99 : iI s23 99 = iI s19 99 := fm_iq Fs23 rfl
  have ws23_70 : iI s23 70 = iI s19 70 := fm_iq Fs23 rfl
  have ws23_107 : iI s23 107 = iI s19 107 := fm_iq Fs23 rfl
  have ws23_12 : iI s23 12 = iI s19 12 := fm_iq Fs23 rfl
  have ws23_83 : iI s23 83 = iI s19 83 := fm_iq Fs23 rfl
  have ws23_12 : iI s23 12 = iI s19 12 := fm_iq Fs23 rfl
  have ws23_89 : iI s23 89 = iI s19 89 := fm_iq Fs23 rfl
  have wos23 : iO s23 = iO s19 := fm_o Fs23 (by decide)
  show WS k 1085 [(5, .int (Int32.ofInt e20)), (0, .ref q1), (1, .ref (A 0)), (2, .ref (A 179)), (3, .ref (A 517)), (4, .int (Int32.ofInt i))] [.int (Int32.ofInt e24)] (Wd A dT s23) (ce + 2) (sl + 12)
  refine z_store X (lv' := [(6, .int (Int32.ofInt e24)), (5, .int (Int32.ofInt e20)), (0, .ref q1), (1, .ref (A 0)), (2, .ref (A 179)), (3, .ref (A 517)), (4, .int (Int32.ofInt i))]) rfl (by decide) (fun _ h => h) (z_goto X (t := 1866) rfl rfl (w_widen (ce' := ce + 29) (sl' := sl + 222) (by first | exact Nat.le_add_right _ _ | exact Nat.add_le_add_left (by decide) _ | omega) (by first | exact Nat.le_add_right _ _ | exact Nat.add_le_add_left (by decide) _ | omega) ?_))
  exact WS_lv (lv := [(0, .ref q1), (1, .ref (A 0)), (2, .ref (A 179)), (3, .ref (A 517)), (4, .int (Int32.ofInt i))]) (List.forall_mem_cons.mpr ⟨(List.Mem.tail _ (List.Mem.tail _ (List.Mem.head _))), (List.forall_mem_cons.mpr ⟨(List.Mem.tail _ (List.Mem.tail _ (List.Mem.tail _ (List.Mem.head _)))), (List.forall_mem_cons.mpr ⟨(List.Mem.tail _ (List.Mem.tail _ (List.Mem.tail _ (List.Mem.tail _ (List.Mem.head _))))), (List.forall_mem_cons.mpr ⟨(List.Mem.tail _ (List.Mem.tail _ (List.Mem.tail _ (List.Mem.tail _ (List.Mem.tail _ (List.Mem.head _)))))), (List.forall_mem_cons.mpr ⟨(List.Mem.tail _ (List.Mem.tail _ (List.Mem.tail _ (List.Mem.tail _ (List.Mem.tail _ (List.Mem.tail _ (List.Mem.head _))))))), (fun q h => absurd h List.not_mem_nil)⟩)⟩)⟩)⟩)⟩) (hk A _ Is23 JRLx_s23 JFEQ_s23 JREQ_s23 JSEQ_s23 JARJ_s23 JPTJ_s23 (by first | exact oq_f34933ba ws23_89 ws19_89 p1 b16.1 | omega) (by first | exact oq_d7ce4408 ws23_12 ws19_12 p2 | omega) (by first | exact oq_5bcdc35f ws23_74 ws23_0 ws19_74 ws19_0 p3 | omega) (by first | exact oq_5bcdc35f ws23_90 ws23_9 ws19_90 ws19_9 p4 | omega) (by first | exact oq_5bcdc35f ws23_98 ws23_20 ws19_98 ws19_20 p5 | omega) (by first | exact oq_5bcdc35f ws23_97 ws23_28 ws19_97 ws19_28 p6 | omega) (by first | exact oq_5bcdc35f ws23_99 ws23_32 ws19_99 ws19_32 p7 | omega) (by first | exact oq_5bcdc35f ws23_107 ws23_70 ws19_107 ws19_70 p8 | omega) (by first | exact oq_5bc06b03 ws23_83 ws23_12 ws19_83 p9 ws19_12 | omega))
theorem lc_24 (G : GX l s0 D tys a0 dT) (GR : RS0 s0) (SF : SF0 s0) (GT : TXs0 s0) (GW : TXw0 s0) {k : kx_T} (X : AX k 350 dT) (E : kL k = l ∧ kS0 k = s0 ∧ kD k = D ∧ kR k = room_1) {q1 L : Nat} {xs : Nat → Int32} (S : SX k q1 L xs) (hL : L ≤ 3072) (I : Bd s) (jR : RLx s) (jFEQ : FEQ s) (jREQ : REQ 39 234 28 s) (jSEQ : SEQ s) (jARJ : ARJ s) (jPTJ : PTJ s) (p1 : iI s 89 = 1) (p2 : iI s 12 ≤ 8) (p3 : iI s 0 = iI s 74) (p4 : iI s 9 = iI s 90) (p5 : iI s 20 = iI s 98) (p6 : iI s 28 = iI s 97) (p7 : iI s 32 = iI s 99) (p8 : iI s 70 = iI s 107) (p9 : iI s 12 = iI s 83) {i : Int} (hi : 0 ≤ i ∧ i + 6 ≤ (L : Int)) {ce sl : Nat} (hce : ce + 29 ≤ 601024) (hsl : sl + 222 ≤ 7293034) (hk : ∀ (A : Nat → Nat) (t : PS), Bd t → RLx t → FEQ t → REQ 39 234 28 t → SEQ t → ARJ t → PTJ t → iI t 89 = 1 → iI t 12 ≤ 8 → iI t 0 = iI t 74 → iI t 9 = iI t 90 → iI t 20 = iI t 98 → iI t 28 = iI t 97 → iI t 32 = iI t 99 → iI t 70 = iI t 107 → iI t 12 = iI t 83 → WS k 1866 [(0, .ref q1), (1, .ref (A 0)), (2, .ref (A 179)), (3, .ref (A 517)), (4, .int (Int32.ofInt i))] [] (Wd A dT t) (ce + 29) (sl + 222)) : WS k 1090 [(0, .ref q1), (1, .ref (A 0)), (2, .ref (A 179)), (3, .ref (A 517)), (4, .int (Int32.ofInt i))] [] (Wd A dT s) ce sl := by
  have F : Fm [28, 73, 97] [] s s := fm_rf _ _ s
  have b1 := bi_0 I
  have b2 := bi_74 I
  have b3 := bi_9 I
  have b4 := bi_90 I
  have b5 := bi_20 I
  have b6 := bi_98 I
  have b7 := bi_28 I
  have b8 := bi_97 I
  have b9 := bi_32 I
  have b10 := bi_99 I
  have b11 := bi_70 I
  have b12 := bi_107 I
  have b13 := bi_12 I
  have b14 := bi_83 I
  have b15 := bi_12 I
  have b16 := bi_89 I
  refine z_aload_n X (x := A 0) rfl (List.Mem.tail _ (List.Mem.head _)) (z_callV X 0 (rm := rmN 159) (As := []) (st := []) rfl rfl (by decide) rfl (by rw [E.1, E.2.1, E.2.2.1]; exact cs_clear2 G I ) ⟨by rw [E.2.2.2]; exact (show 6 + 1 ≤ 2048 from oq_4d34cb53), by rw [E.2.2.2]; exact (show 8 + (2 + 11) + 100 ≤ 84000 from oq_8731b8c0), by rw [E.2.2.2]; exact (show ce + 0 ≤ 601024 by omega), by rw [E.2.2.2]; exact (show sl + 0 ≤ 7293034 by omega)⟩ (Nat.le_of_ble_eq_true rfl) (fun vv s17 hq => ?_) (fun ee s17 hq => ?_))
  rotate_left
  · obtain ⟨Is17, Fs17, e18, hv, hrs17, hps17⟩ := hq; cases hv
  obtain ⟨Is17, Fs17, e18, hv, hrs17, hps17⟩ := hq
  cases hv
  have JRLx_s17 : RLx s17 := RLx_fm Fs17 (by decide) jR
  have JFEQ_s17 : FEQ s17 := FEQ_fm Fs17 (by decide) jFEQ
  have JSEQ_s17 : SEQ s17 := SEQ_fm Fs17 (by decide) jSEQ
  have JARJ_s17 : ARJ s17 := ARJ_fm Fs17 ⟨by decide +kernel, by decide +kernel, by decide +kernel, by decide +kernel, by decide +kernel, by decide +kernel, by decide +kernel, by decide +kernel⟩ jARJ
  have JPTJ_s17 : PTJ s17 := PTJ_fm Fs17 (by decide +kernel) jPTJ
  have ws17_0 : iI s17 0 = iI s 0 := fm_iq Fs17 rfl
  have ws17_74 : iI s17 74 = iI s 74 := fm_iq Fs17 rfl
  have ws17_9 : iI s17 9 = iI s 9 := fm_iq Fs17 rfl
  have ws17_90 : iI s17 90 = iI s 90 := fm_iq Fs17 rfl
  have ws17_20 : iI s17 20 = iI s 20 := fm_iq Fs17 rfl
  have ws17_98 : iI s17 98 = iI s 98 := fm_iq Fs17 rfl
  have b19 := bi_28 Is17
  have ws17_97 : iI s17 97 = iI s 97 := fm_iq Fs17 rfl
  have ws17_32 : iI s17 32 = iI s 32 := fm_iq Fs17 rfl
  have ws17_99 : iI s17 99 = iI s 99 := fm_iq Fs17 rfl
  have ws17_70 : iI s17 70 = iI s 70 := fm_iq Fs17 rfl
  have ws17_107 : iI s17 107 = iI s 107 := fm_iq Fs17 rfl
  have ws17_12 : iI s17 12 = iI s 12 := fm_iq Fs17 rfl
  have ws17_83 : iI s17 83 = iI s 83 := fm_iq Fs17 rfl
  have ws17_12 : iI s17 12 = iI s 12 := fm_iq Fs17 rfl
  have ws17_89 : iI s17 89 = iI s 89 := fm_iq Fs17 rfl
  have wos17 : iO s17 = iO s := fm_o Fs17 (by decide)
  have jq20 : REQ 39 234 28 s17 := req_0 (by omega)
  show WS k 1094 [(0, .ref q1), (1, .ref (A 0)), (2, .ref (A 179)), (3, .ref (A 517)), (4, .int (Int32.ofInt i))] [.int (Int32.ofInt e18)] (Wd A dT s17) ce sl
  refine w_pop X.1 (ax_d X (show cdA 350 1094 = some (.pop, 1, 0, 0, 0) from rfl)) rfl (z_aload_n X (x := A 179) rfl (List.Mem.tail _ (List.Mem.tail _ (List.Mem.head _))) (z_callV X 179 (rm := rmN 259) (As := []) (st := []) rfl rfl (by decide) rfl (by rw [E.1, E.2.1, E.2.2.1]; exact k_clear2 G Is17 ) ⟨by rw [E.2.2.2]; exact (show 6 + 1 ≤ 2048 from oq_4d34cb53), by rw [E.2.2.2]; exact (show 8 + (2 + 11) + 100 ≤ 84000 from oq_8731b8c0), by rw [E.2.2.2]; exact (show ce + 0 ≤ 601024 by omega), by rw [E.2.2.2]; exact (show sl + 0 ≤ 7293034 by omega)⟩ (Nat.le_of_ble_eq_true rfl) (fun vv s21 hq => ?_) (fun ee s21 hq => ?_)))
  rotate_left
  · obtain ⟨Is21, Fs21, e22, hv, hrs21, hps21⟩ := hq; cases hv
  obtain ⟨Is21, Fs21, e22, hv, hrs21, hps21⟩ := hq
  cases hv
  have JRLx_s21 : RLx s21 := RLx_fm Fs21 (by decide) JRLx_s17
  have JFEQ_s21 : FEQ s21 := FEQ_fm Fs21 (by decide) JFEQ_s17
  have JREQ_s21 : REQ 39 234 28 s21 := REQ_fm Fs21 (by decide) jq20
  have JSEQ_s21 : SEQ s21 := SEQ_fm Fs21 (by decide) JSEQ_s17
  have JARJ_s21 : ARJ s21 := ARJ_fm Fs21 ⟨by decide +kernel, by decide +kernel, by decide +kernel, by decide +kernel, by decide +kernel, by decide +kernel, by decide +kernel, by decide +kernel⟩ JARJ_s17
  have JPTJ_s21 : PTJ s21 := PTJ_fm Fs21 (by decide +kernel) JPTJ_s17
  have ws21_0 : iI s21 0 = iI s17 0 := fm_iq Fs21 rfl
  have ws21_74 : iI s21 74 = iI s17 74 := fm_iq Fs21 rfl
  have ws21_9 : iI s21 9 = iI s17 9 := fm_iq Fs21 rfl
  have ws21_90 : iI s21 90 = iI s17 90 := fm_iq Fs21 rfl
  have ws21_20 : iI s21 20 = iI s17 20 := fm_iq Fs21 rfl
  have ws21_98 : iI s21 98 = iI s17 98 := fm_iq Fs21 rfl
  have ws21_28 : iI s21 28 = iI s17 28 := fm_iq Fs21 rfl
  have b23 := bi_97 Is21
  have ws21_32 : iI s21 32 = iI s17 32 := fm_iq Fs21 rfl
  have ws21_99 : iI s21 99 = iI s17 99 := fm_iq Fs21 rfl
  have ws21_70 : iI s21 70 = iI s17 70 := fm_iq Fs21 rfl
  have ws21_107 : iI s21 107 = iI s17 107 := fm_iq Fs21 rfl
  have ws21_12 : iI s21 12 = iI s17 12 := fm_iq Fs21 rfl
  have ws21_83 : iI s21 83 = iI s17 83 := fm_iq Fs21 rfl
  have ws21_12 : iI s21 12 = iI s17 12 := fm_iq Fs21 rfl
  have ws21_89 : iI s21 89 = iI s17 89 := fm_iq Fs21 rfl
  have wos21 : iO s21 = iO s17 := fm_o Fs21 (by decide)
  show WS k 1099 [(0, .ref q1), (1, .ref (A 0)), (2, .ref (A 179)), (3, .ref (A 517)), (4, .int (Int32.ofInt i))] [.int (Int32.ofInt e22)] (Wd A dT s21) ce sl
  refine w_pop X.1 (ax_d X (show cdA 350 1099 = some (.pop, 1, 0, 0, 0) from rfl)) rfl (z_goto X (t := 1866) rfl rfl (w_widen (ce' := ce + 29) (sl' := sl + 222) (by first | exact Nat.le_add_right _ _ | exact Nat.add_le_add_left (by decide) _ | omega) (by first | exact Nat.le_add_right _ _ | exact Nat.add_le_add_left (by decide) _ | omega) ?_))
  exact WS_lv (lv := [(0, .ref q1), (1, .ref (A 0)), (2, .ref (A 179)), (3, .ref (A 517)), (4, .int (Int32.ofInt i))]) (List.forall_mem_cons.mpr ⟨(List.Mem.head _), (List.forall_mem_cons.mpr ⟨(List.Mem.tail _ (List.Mem.head _)), (List.forall_mem_cons.mpr ⟨(List.Mem.tail _ (List.Mem.tail _ (List.Mem.head _))), (List.forall_mem_cons.mpr ⟨(List.Mem.tail _ (List.Mem.tail _ (List.Mem.tail _ (List.Mem.head _)))), (List.forall_mem_cons.mpr ⟨(List.Mem.tail _ (List.Mem.tail _ (List.Mem.tail _ (List.Mem.tail _ (List.Mem.head _))))), (fun q h => absurd h List.not_mem_nil)⟩)⟩)⟩)⟩)⟩) (hk A _ Is21 JRLx_s21 JFEQ_s21 JREQ_s21 JSEQ_s21 JARJ_s21 JPTJ_s21 (by first | exact oq_f34933ba ws21_89 ws17_89 p1 b16.1 | omega) (by first | exact oq_d7ce4408 ws21_12 ws17_12 p2 | omega) (by first | exact oq_5bcdc35f ws21_74 ws21_0 ws17_74 ws17_0 p3 | omega) (by first | exact oq_5bcdc35f ws21_90 ws21_9 ws17_90 ws17_9 p4 | omega) (by first | exact oq_5bcdc35f ws21_98 ws21_20 ws17_98 ws17_20 p5 | omega) (by first | exact oq_3eb7c1bb ws21_28 b23.1 hps17.2 hps21.2 b19.1 | omega) (by first | exact oq_5bcdc35f ws21_99 ws21_32 ws17_99 ws17_32 p7 | omega) (by first | exact oq_5bcdc35f ws21_107 ws21_70 ws17_107 ws17_70 p8 | omega) (by first | exact oq_5bc06b03 ws21_83 ws21_12 ws17_83 p9 ws17_12 | omega))
theorem lc_25 (G : GX l s0 D tys a0 dT) (GR : RS0 s0) (SF : SF0 s0) (GT : TXs0 s0) (GW : TXw0 s0) {k : kx_T} (X : AX k 350 dT) (E : kL k = l ∧ kS0 k = s0 ∧ kD k = D ∧ kR k = room_1) {q1 L : Nat} {xs : Nat → Int32} (S : SX k q1 L xs) (hL : L ≤ 3072) (I : Bd s) (jR : RLx s) (jFEQ : FEQ s) (jREQ : REQ 39 234 28 s) (jSEQ : SEQ s) (jARJ : ARJ s) (jPTJ : PTJ s) (p1 : iI s 89 = 1) (p2 : iI s 12 ≤ 8) (p3 : iI s 0 = iI s 74) (p4 : iI s 9 = iI s 90) (p5 : iI s 20 = iI s 98) (p6 : iI s 28 = iI s 97) (p7 : iI s 32 = iI s 99) (p8 : iI s 70 = iI s 107) (p9 : iI s 12 = iI s 83) {i : Int} (hi : 0 ≤ i ∧ i + 6 ≤ (L : Int)) {ce sl : Nat} (hce : ce + 29 ≤ 601024) (hsl : sl + 222 ≤ 7293034) (hk : ∀ (A : Nat → Nat) (t : PS), Bd t → RLx t → FEQ t → REQ 39 234 28 t → SEQ t → ARJ t → PTJ t → iI t 89 = 1 → iI t 12 ≤ 8 → iI t 0 = iI t 74 → iI t 9 = iI t 90 → iI t 20 = iI t 98 → iI t 28 = iI t 97 → iI t 32 = iI t 99 → iI t 70 = iI t 107 → iI t 12 = iI t 83 → WS k 1866 [(0, .ref q1), (1, .ref (A 0)), (2, .ref (A 179)), (3, .ref (A 517)), (4, .int (Int32.ofInt i))] [] (Wd A dT t) (ce + 29) (sl + 222)) : WS k 1103 [(0, .ref q1), (1, .ref (A 0)), (2, .ref (A 179)), (3, .ref (A 517)), (4, .int (Int32.ofInt i))] [] (Wd A dT s) ce sl := by
  have F : Fm [32, 73, 99] [46, 1460, 237] s s := fm_rf _ _ s
  have b1 := bi_0 I
  have b2 := bi_74 I
  have b3 := bi_9 I
  have b4 := bi_90 I
  have b5 := bi_20 I
  have b6 := bi_98 I
  have b7 := bi_28 I
  have b8 := bi_97 I
  have b9 := bi_32 I
  have b10 := bi_99 I
  have b11 := bi_70 I
  have b12 := bi_107 I
  have b13 := bi_12 I
  have b14 := bi_83 I
  have b15 := bi_12 I
  have b16 := bi_89 I
  refine z_aload_n X (x := A 0) rfl (List.Mem.tail _ (List.Mem.head _)) (z_aload_n X (x := q1) rfl (List.Mem.head _) (z_load X (x := i) rfl (List.Mem.tail _ (List.Mem.tail _ (List.Mem.tail _ (List.Mem.tail _ (List.Mem.head _))))) (z_const X rfl (z_add X rfl (z_sld X S hL rfl (show 0 ≤ (i + 1) ∧ (i + 1) < (L : Int) by first | exact sx_in hi (by decide) | omega) ?_)))))
  have sr17 : rng (sc xs (i + 1)) := sc_rng
  refine z_aload_n X (x := A 517) rfl (List.Mem.tail _ (List.Mem.tail _ (List.Mem.tail _ (List.Mem.head _)))) (z_callL X (rm := rmN 334) (As := [.ref (A 0), .int (Int32.ofInt (sc xs (i + 1))), .ref (A 517)]) (st := []) rfl (by decide) rfl (by rw [E.1, E.2.1, E.2.2.1]; exact lw_configure2 G I (by omega)) ⟨by rw [E.2.2.2]; exact (show 8 + 1 ≤ 2048 by decide), by rw [E.2.2.2]; exact (show 8 + (4 + 11) + 144 ≤ 84000 by decide), by rw [E.2.2.2]; exact (show ce + 1 ≤ 601024 by first | exact rmo_1 hce (by decide) | exact rmo_2 hce (by decide) | omega), by rw [E.2.2.2]; exact (show sl + 6 ≤ 7293034 by first | exact rmo_1 hsl (by decide) | exact rmo_2 hsl (by decide) | omega)⟩ (Nat.le_of_ble_eq_true rfl) (fun vv A s18 hA2 hq => ?_) (fun ee A s18 hA2 hq => ?_))
  rotate_left
  · obtain ⟨Is18, Fs18, e19, hv, hrs18, hps18⟩ := hq; cases hv
  obtain ⟨Is18, Fs18, e19, hv, hrs18, hps18⟩ := hq
  cases hv
  rw [← hA2 0 (by decide)]
  rw [← hA2 179 (by decide)]
  rw [← hA2 517 (by decide)]
  have JRLx_s18 : RLx s18 := RLx_fm Fs18 (by decide) jR
  have JFEQ_s18 : FEQ s18 := FEQ_fm Fs18 (by decide) jFEQ
  have JREQ_s18 : REQ 39 234 28 s18 := REQ_fm Fs18 (by decide) jREQ
  have JSEQ_s18 : SEQ s18 := SEQ_fm Fs18 (by decide) jSEQ
  have JARJ_s18 : ARJ s18 := ARJ_fm Fs18 ⟨by decide +kernel, by decide +kernel, by decide +kernel, by decide +kernel, by decide +kernel, by decide +kernel, by decide +kernel, by decide +kernel⟩ jARJ
  have JPTJ_s18 : PTJ s18 := PTJ_fm Fs18 (by decide +kernel) jPTJ
  have ws18_0 : iI s18 0 = iI s 0 := fm_iq Fs18 rfl
  have ws18_74 : iI s18 74 = iI s 74 := fm_iq Fs18 rfl
  have ws18_9 : iI s18 9 = iI s 9 := fm_iq Fs18 rfl
  have ws18_90 : iI s18 90 = iI s 90 := fm_iq Fs18 rfl
  have ws18_20 : iI s18 20 = iI s 20 := fm_iq Fs18 rfl
  have ws18_98 : iI s18 98 = iI s 98 := fm_iq Fs18 rfl
  have ws18_28 : iI s18 28 = iI s 28 := fm_iq Fs18 rfl
  have ws18_97 : iI s18 97 = iI s 97 := fm_iq Fs18 rfl
  have b20 := bi_32 Is18
  have ws18_99 : iI s18 99 = iI s 99 := fm_iq Fs18 rfl
  have ws18_70 : iI s18 70 = iI s 70 := fm_iq Fs18 rfl
  have ws18_107 : iI s18 107 = iI s 107 := fm_iq Fs18 rfl
  have ws18_12 : iI s18 12 = iI s 12 := fm_iq Fs18 rfl
  have ws18_83 : iI s18 83 = iI s 83 := fm_iq Fs18 rfl
  have ws18_12 : iI s18 12 = iI s 12 := fm_iq Fs18 rfl
  have ws18_89 : iI s18 89 = iI s 89 := fm_iq Fs18 rfl
  show WS k 1114 [(0, .ref q1), (1, .ref (A 0)), (2, .ref (A 179)), (3, .ref (A 517)), (4, .int (Int32.ofInt i))] [.int (Int32.ofInt e19)] (Wd A dT s18) (ce + 1) (sl + 6)
  refine z_store X (lv' := [(5, .int (Int32.ofInt e19)), (0, .ref q1), (1, .ref (A 0)), (2, .ref (A 179)), (3, .ref (A 517)), (4, .int (Int32.ofInt i))]) rfl (by decide) (fun _ h => h) (z_aload_n X (x := A 179) rfl (List.Mem.tail _ (List.Mem.tail _ (List.Mem.tail _ (List.Mem.head _)))) (z_aload_n X (x := q1) rfl (List.Mem.tail _ (List.Mem.head _)) (z_load X (x := i) rfl (List.Mem.tail _ (List.Mem.tail _ (List.Mem.tail _ (List.Mem.tail _ (List.Mem.tail _ (List.Mem.head _)))))) (z_const X rfl (z_add X rfl (z_sld X S hL rfl (show 0 ≤ (i + 1) ∧ (i + 1) < (L : Int) by first | exact sx_in hi (by decide) | omega) ?_))))))
  have sr21 : rng (sc xs (i + 1)) := sc_rng
  refine z_callV X 179 (rm := rmN 264) (As := [.int (Int32.ofInt (sc xs (i + 1)))]) (st := []) rfl rfl (by decide) rfl (by rw [E.1, E.2.1, E.2.2.1]; exact k_configure2 G Is18 (by first | exact ⟨sr21.1, sr21.2⟩ | omega)) ⟨by rw [E.2.2.2]; exact (show 7 + 1 ≤ 2048 from oq_4e6106eb), by rw [E.2.2.2]; exact (show 8 + (2 + 11) + 122 ≤ 84000 from oq_f09e007f), by rw [E.2.2.2]; exact (show (ce + 1) + 0 ≤ 601024 by first | (clear hps18; omega) | omega), by rw [E.2.2.2]; exact (show (sl + 6) + 0 ≤ 7293034 by first | (clear hps18; omega) | omega)⟩ (Nat.le_of_ble_eq_true rfl) (fun vv s22 hq => ?_) (fun ee s22 hq => ?_)
  rotate_left
  · obtain ⟨Is22, Fs22, e23, hv, hrs22, hps22⟩ := hq; cases hv
  obtain ⟨Is22, Fs22, e23, hv, hrs22, hps22⟩ := hq
  cases hv
  have JRLx_s22 : RLx s22 := RLx_fm Fs22 (by decide) JRLx_s18
  have JFEQ_s22 : FEQ s22 := FEQ_fm Fs22 (by decide) JFEQ_s18
  have JREQ_s22 : REQ 39 234 28 s22 := REQ_fm Fs22 (by decide) JREQ_s18
  have JSEQ_s22 : SEQ s22 := SEQ_fm Fs22 (by decide) JSEQ_s18
  have JARJ_s22 : ARJ s22 := ARJ_fm Fs22 ⟨by decide +kernel, by decide +kernel, by decide +kernel, by decide +kernel, by decide +kernel, by decide +kernel, by decide +kernel, by decide +kernel⟩ JARJ_s18
  have JPTJ_s22 : PTJ s22 := PTJ_fm Fs22 (by decide +kernel) JPTJ_s18
  have ws22_0 : iI s22 0 = iI s18 0 := fm_iq Fs22 rfl
  have ws22_74 : iI s22 74 = iI s18 74 := fm_iq Fs22 rfl
  have ws22_9 : iI s22 9 = iI s18 9 := fm_iq Fs22 rfl
  have ws22_90 : iI s22 90 = iI s18 90 := fm_iq Fs22 rfl
  have ws22_20 : iI s22 20 = iI s18 20 := fm_iq Fs22 rfl
  have ws22_98 : iI s22 98 = iI s18 98 := fm_iq Fs22 rfl
  have ws22_28 : iI s22 28 = iI s18 28 := fm_iq Fs22 rfl
  have ws22_97 : iI s22 97 = iI s18 97 := fm_iq Fs22 rfl
  have ws22_32 : iI s22 32 = iI s18 32 := fm_iq Fs22 rfl
  have b24 := bi_99 Is22
  have ws22_70 : iI s22 70 = iI s18 70 := fm_iq Fs22 rfl
  have ws22_107 : iI s22 107 = iI s18 107 := fm_iq Fs22 rfl
  have ws22_12 : iI s22 12 = iI s18 12 := fm_iq Fs22 rfl
  have ws22_83 : iI s22 83 = iI s18 83 := fm_iq Fs22 rfl
  have ws22_12 : iI s22 12 = iI s18 12 := fm_iq Fs22 rfl
  have ws22_89 : iI s22 89 = iI s18 89 := fm_iq Fs22 rfl
  have wos22 : iO s22 = iO s18 := fm_o Fs22 (by decide)
  show WS k 1126 [(5, .int (Int32.ofInt e19)), (0, .ref q1), (1, .ref (A 0)), (2, .ref (A 179)), (3, .ref (A 517)), (4, .int (Int32.ofInt i))] [.int (Int32.ofInt e23)] (Wd A dT s22) (ce + 1) (sl + 6)
  refine z_store X (lv' := [(6, .int (Int32.ofInt e23)), (5, .int (Int32.ofInt e19)), (0, .ref q1), (1, .ref (A 0)), (2, .ref (A 179)), (3, .ref (A 517)), (4, .int (Int32.ofInt i))]) rfl (by decide) (fun _ h => h) (z_goto X (t := 1866) rfl rfl (w_widen (ce' := ce + 29) (sl' := sl + 222) (by first | exact Nat.le_add_right _ _ | exact Nat.add_le_add_left (by decide) _ | omega) (by first | exact Nat.le_add_right _ _ | exact Nat.add_le_add_left (by decide) _ | omega) ?_))
  exact WS_lv (lv := [(0, .ref q1), (1, .ref (A 0)), (2, .ref (A 179)), (3, .ref (A 517)), (4, .int (Int32.ofInt i))]) (List.forall_mem_cons.mpr ⟨(List.Mem.tail _ (List.Mem.tail _ (List.Mem.head _))), (List.forall_mem_cons.mpr ⟨(List.Mem.tail _ (List.Mem.tail _ (List.Mem.tail _ (List.Mem.head _)))), (List.forall_mem_cons.mpr ⟨(List.Mem.tail _ (List.Mem.tail _ (List.Mem.tail _ (List.Mem.tail _ (List.Mem.head _))))), (List.forall_mem_cons.mpr ⟨(List.Mem.tail _ (List.Mem.tail _ (List.Mem.tail _ (List.Mem.tail _ (List.Mem.tail _ (List.Mem.head _)))))), (List.forall_mem_cons.mpr ⟨(List.Mem.tail _ (List.Mem.tail _ (List.Mem.tail _ (List.Mem.tail _ (List.Mem.tail _ (List.Mem.tail _ (List.Mem.head _))))))), (fun q h => absurd h List.not_mem_nil)⟩)⟩)⟩)⟩)⟩) (hk A _ Is22 JRLx_s22 JFEQ_s22 JREQ_s22 JSEQ_s22 JARJ_s22 JPTJ_s22 (by first | exact oq_f34933ba ws22_89 ws18_89 p1 b16.1 | omega) (by first | exact oq_d7ce4408 ws22_12 ws18_12 p2 | omega) (by first | exact oq_5bcdc35f ws22_74 ws22_0 ws18_74 ws18_0 p3 | omega) (by first | exact oq_5bcdc35f ws22_90 ws22_9 ws18_90 ws18_9 p4 | omega) (by first | exact oq_5bcdc35f ws22_98 ws22_20 ws18_98 ws18_20 p5 | omega) (by first | exact oq_5bcdc35f ws22_97 ws22_28 ws18_97 ws18_28 p6 | omega) (by first | exact oq_e623282d b24.2 ws22_32 hps22 hps18 ws18_99 b20.2 p7 | omega) (by first | exact oq_5bcdc35f ws22_107 ws22_70 ws18_107 ws18_70 p8 | omega) (by first | exact oq_5bc06b03 ws22_83 ws22_12 ws18_83 p9 ws18_12 | omega))
theorem lc_26 (G : GX l s0 D tys a0 dT) (GR : RS0 s0) (SF : SF0 s0) (GT : TXs0 s0) (GW : TXw0 s0) {k : kx_T} (X : AX k 350 dT) (E : kL k = l ∧ kS0 k = s0 ∧ kD k = D ∧ kR k = room_1) {q1 L : Nat} {xs : Nat → Int32} (S : SX k q1 L xs) (hL : L ≤ 3072) (I : Bd s) (jR : RLx s) (jFEQ : FEQ s) (jREQ : REQ 39 234 28 s) (jSEQ : SEQ s) (jARJ : ARJ s) (jPTJ : PTJ s) (p1 : iI s 89 = 1) (p2 : iI s 12 ≤ 8) (p3 : iI s 0 = iI s 74) (p4 : iI s 9 = iI s 90) (p5 : iI s 20 = iI s 98) (p6 : iI s 28 = iI s 97) (p7 : iI s 32 = iI s 99) (p8 : iI s 70 = iI s 107) (p9 : iI s 12 = iI s 83) {i : Int} (hi : 0 ≤ i ∧ i + 6 ≤ (L : Int)) {ce sl : Nat} (hce : ce + 29 ≤ 601024) (hsl : sl + 222 ≤ 7293034) (hk : ∀ (A : Nat → Nat) (t : PS), Bd t → RLx t → FEQ t → REQ 39 234 28 t → SEQ t → ARJ t → PTJ t → iI t 89 = 1 → iI t 12 ≤ 8 → iI t 0 = iI t 74 → iI t 9 = iI t 90 → iI t 20 = iI t 98 → iI t 28 = iI t 97 → iI t 32 = iI t 99 → iI t 70 = iI t 107 → iI t 12 = iI t 83 → WS k 1866 [(0, .ref q1), (1, .ref (A 0)), (2, .ref (A 179)), (3, .ref (A 517)), (4, .int (Int32.ofInt i))] [] (Wd A dT t) (ce + 29) (sl + 222)) : WS k 1131 [(0, .ref q1), (1, .ref (A 0)), (2, .ref (A 179)), (3, .ref (A 517)), (4, .int (Int32.ofInt i))] [] (Wd A dT s) ce sl := by
  have F : Fm [22, 23, 24, 73, 89, 77, 75, 78, 79, 80, 81] [33, 26, 27, 28, 29, 30, 31, 32, 20, 48, 47, 1460, 202, 204, 205, 206, 207, 208, 209, 210, 211, 212, 213, 214, 215, 216, 217, 218, 219, 220, 221, 222, 223, 224, 225, 226, 227, 203, 161, 230] s s := fm_rf _ _ s
  have b1 := bi_0 I
  have b2 := bi_74 I
  have b3 := bi_9 I
  have b4 := bi_90 I
  have b5 := bi_20 I
  have b6 := bi_98 I
  have b7 := bi_28 I
  have b8 := bi_97 I
  have b9 := bi_32 I
  have b10 := bi_99 I
  have b11 := bi_70 I
  have b12 := bi_107 I
  have b13 := bi_12 I
  have b14 := bi_83 I
  have b15 := bi_12 I
  have b16 := bi_89 I
  refine z_aload_n X (x := A 0) rfl (List.Mem.tail _ (List.Mem.head _)) (z_aload_n X (x := q1) rfl (List.Mem.head _) (z_load X (x := i) rfl (List.Mem.tail _ (List.Mem.tail _ (List.Mem.tail _ (List.Mem.tail _ (List.Mem.head _))))) (z_const X rfl (z_add X rfl (z_sld X S hL rfl (show 0 ≤ (i + 1) ∧ (i + 1) < (L : Int) by first | exact sx_in hi (by decide) | omega) ?_)))))
  have sr17 : rng (sc xs (i + 1)) := sc_rng
  refine z_aload_n X (x := q1) rfl (List.Mem.head _) (z_load X (x := i) rfl (List.Mem.tail _ (List.Mem.tail _ (List.Mem.tail _ (List.Mem.tail _ (List.Mem.head _))))) (z_const X rfl (z_add X rfl (z_sld X S hL rfl (show 0 ≤ (i + 2) ∧ (i + 2) < (L : Int) by first | exact sx_in hi (by decide) | omega) ?_))))
  have sr18 : rng (sc xs (i + 2)) := sc_rng
  refine z_aload_n X (x := A 517) rfl (List.Mem.tail _ (List.Mem.tail _ (List.Mem.tail _ (List.Mem.head _)))) (z_callL X (rm := rmN 335) (As := [.ref (A 0), .int (Int32.ofInt (sc xs (i + 1))), .int (Int32.ofInt (sc xs (i + 2))), .ref (A 517)]) (st := []) rfl (by decide) rfl (by rw [E.1, E.2.1, E.2.2.1]; exact lw_pairs G I (by omega) (by omega) (by omega)) ⟨by rw [E.2.2.2]; exact (show 12 + 1 ≤ 2048 by decide), by rw [E.2.2.2]; exact (show 8 + (5 + 11) + 248 ≤ 84000 by decide), by rw [E.2.2.2]; exact (show ce + 2 ≤ 601024 by first | exact rmo_1 hce (by decide) | exact rmo_2 hce (by decide) | omega), by rw [E.2.2.2]; exact (show sl + 12 ≤ 7293034 by first | exact rmo_1 hsl (by decide) | exact rmo_2 hsl (by decide) | omega)⟩ (Nat.le_of_ble_eq_true rfl) (fun vv A s19 hA2 hq => ?_) (fun ee A s19 hA2 hq => ?_))
  rotate_left
  · obtain ⟨Is19, Fs19, e20, hv, hrs19, hps19⟩ := hq; cases hv
  obtain ⟨Is19, Fs19, e20, hv, hrs19, hps19⟩ := hq
  cases hv
  rw [← hA2 0 (by decide)]
  rw [← hA2 179 (by decide)]
  rw [← hA2 517 (by decide)]
  have JRLx_s19 : RLx s19 := RLx_fm Fs19 (by decide) jR
  have JFEQ_s19 : FEQ s19 := FEQ_fm Fs19 (by decide) jFEQ
  have JREQ_s19 : REQ 39 234 28 s19 := REQ_fm Fs19 (by decide) jREQ
  have JSEQ_s19 : SEQ s19 := SEQ_fm Fs19 (by decide) jSEQ
  have JARJ_s19 : ARJ s19 := ARJ_fm Fs19 ⟨by decide +kernel, by decide +kernel, by decide +kernel, by decide +kernel, by decide +kernel, by decide +kernel, by decide +kernel, by decide +kernel⟩ jARJ
  have JPTJ_s19 : PTJ s19 := PTJ_fm Fs19 (by decide +kernel) jPTJ
  have ws19_0 : iI s19 0 = iI s 0 := fm_iq Fs19 rfl
  have ws19_74 : iI s19 74 = iI s 74 := fm_iq Fs19 rfl
  have ws19_9 : iI s19 9 = iI s 9 := fm_iq Fs19 rfl
  have ws19_90 : iI s19 90 = iI s 90 := fm_iq Fs19 rfl
  have ws19_20 : iI s19 20 = iI s 20 := fm_iq Fs19 rfl
  have ws19_98 : iI s19 98 = iI s 98 := fm_iq Fs19 rfl
  have ws19_28 : iI s19 28 = iI s 28 := fm_iq Fs19 rfl
  have ws19_97 : iI s19 97 = iI s 97 := fm_iq Fs19 rfl
  have ws19_32 : iI s19 32 = iI s 32 := fm_iq Fs19 rfl
  have ws19_99 : iI s19 99 = iI s 99 := fm_iq Fs19 rfl
  have ws19_70 : iI s19 70 = iI s 70 := fm_iq Fs19 rfl
  have ws19_107 : iI s19 107 = iI s 107 := fm_iq Fs19 rfl
  have ws19_12 : iI s19 12 = iI s 12 := fm_iq Fs19 rfl
  have ws19_83 : iI s19 83 = iI s 83 := fm_iq Fs19 rfl
  have ws19_12 : iI s19 12 = iI s 12 := fm_iq Fs19 rfl
  have ws19_89 : iI s19 89 = iI s 89 := fm_iq Fs19 rfl
  show WS k 1148 [(0, .ref q1), (1, .ref (A 0)), (2, .ref (A 179)), (3, .ref (A 517)), (4, .int (Int32.ofInt i))] [.int (Int32.ofInt e20)] (Wd A dT s19) (ce + 2) (sl + 12)
  refine z_store X (lv' := [(5, .int (Int32.ofInt e20)), (0, .ref q1), (1, .ref (A 0)), (2, .ref (A 179)), (3, .ref (A 517)), (4, .int (Int32.ofInt i))]) rfl (by decide) (fun _ h => h) (z_aload_n X (x := A 179) rfl (List.Mem.tail _ (List.Mem.tail _ (List.Mem.tail _ (List.Mem.head _)))) (z_aload_n X (x := q1) rfl (List.Mem.tail _ (List.Mem.head _)) (z_load X (x := i) rfl (List.Mem.tail _ (List.Mem.tail _ (List.Mem.tail _ (List.Mem.tail _ (List.Mem.tail _ (List.Mem.head _)))))) (z_const X rfl (z_add X rfl (z_sld X S hL rfl (show 0 ≤ (i + 1) ∧ (i + 1) < (L : Int) by first | exact sx_in hi (by decide) | omega) ?_))))))
  have sr21 : rng (sc xs (i + 1)) := sc_rng
  refine z_aload_n X (x := q1) rfl (List.Mem.tail _ (List.Mem.head _)) (z_load X (x := i) rfl (List.Mem.tail _ (List.Mem.tail _ (List.Mem.tail _ (List.Mem.tail _ (List.Mem.tail _ (List.Mem.head _)))))) (z_const X rfl (z_add X rfl (z_sld X S hL rfl (show 0 ≤ (i + 2) ∧ (i + 2) < (L : Int) by first | exact sx_in hi (by decide) | omega) ?_))))
  have sr22 : rng (sc xs (i + 2)) := sc_rng
  refine z_callV X 179 (rm := rmN 267) (As := [.int (Int32.ofInt (sc xs (i + 1))), .int (Int32.ofInt (sc xs (i + 2)))]) (st := []) rfl rfl (by decide) rfl (by rw [E.1, E.2.1, E.2.2.1]; exact k_pairs G Is19 JRLx_s19 (by first | exact ⟨sr21.1, sr21.2⟩ | omega) (by first | exact ⟨sr22.1, sr22.2⟩ | omega)) ⟨by rw [E.2.2.2]; exact (show 62 + 1 ≤ 2048 from oq_03e28196), by rw [E.2.2.2]; exact (show 8 + (3 + 11) + 2686 ≤ 84000 from oq_1f8b0a4c), by rw [E.2.2.2]; exact (show (ce + 2) + 0 ≤ 601024 by omega), by rw [E.2.2.2]; exact (show (sl + 12) + 0 ≤ 7293034 by omega)⟩ (Nat.le_of_ble_eq_true rfl) (fun vv s23 hq => ?_) (fun ee s23 hq => ?_)
  rotate_left
  · obtain ⟨Is23, Fs23, JRLx_s23, e24, hv, hrs23, hps23⟩ := hq; cases hv
  obtain ⟨Is23, Fs23, JRLx_s23, e24, hv, hrs23, hps23⟩ := hq
  cases hv
  have JRLx_s23 : RLx s23 := RLx_fm Fs23 (by decide) JRLx_s19
  have JFEQ_s23 : FEQ s23 := FEQ_fm Fs23 (by decide) JFEQ_s19
  have JREQ_s23 : REQ 39 234 28 s23 := REQ_fm Fs23 (by decide) JREQ_s19
  have JSEQ_s23 : SEQ s23 := SEQ_fm Fs23 (by decide) JSEQ_s19
  have JARJ_s23 : ARJ s23 := ARJ_fm Fs23 ⟨by decide +kernel, by decide +kernel, by decide +kernel, by decide +kernel, by decide +kernel, by decide +kernel, by decide +kernel, by decide +kernel⟩ JARJ_s19
  have JPTJ_s23 : PTJ s23 := PTJ_fm Fs23 (by decide +kernel) JPTJ_s19
  have ws23_0 : iI s23 0 = iI s19 0 := fm_iq Fs23 rfl
  have ws23_74 : iI s23 74 = iI s19 74 := fm_iq Fs23 rfl
  have ws23_9 : iI s23 9 = iI s19 9 := fm_iq Fs23 rfl
  have ws23_90 : iI s23 90 = iI s19 90 := fm_iq Fs23 rfl
  have ws23_20 : iI s23 20 = iI s19 20 := fm_iq Fs23 rfl
  have ws23_98 : iI s23 98 = iI s19 98 := fm_iq Fs23 rfl
  have ws23_28 : iI s23 28 = iI s19 28 := fm_iq Fs23 rfl
  have ws23_97 : iI s23 97 = iI s19 97 := fm_iq Fs23 rfl
  have ws23_32 : iI s23 32 = iI s19 32 := fm_iq Fs23 rfl
  have ws23_99 : iI s23 99 = iI s19 99 := fm_iq Fs23 rfl
  have ws23_70 : iI s23 70 = iI s19 70 := fm_iq Fs23 rfl
  have ws23_107 : iI s23 107 = iI s19 107 := fm_iq Fs23 rfl
  have ws23_12 : iI s23 12 = iI s19 12 := fm_iq Fs23 rfl
  have ws23_83 : iI s23 83 = iI s19 83 := fm_iq Fs23 rfl
  have ws23_12 : iI s23 12 = iI s19 12 := fm_iq Fs23 rfl
  have b25 := bi_89 Is23
  have wos23 : iO s23 = iO s19 := fm_o Fs23 (by decide)
  replace hps23 := hps23 (by clear hps23; omega)
  show WS k 1166 [(5, .int (Int32.ofInt e20)), (0, .ref q1), (1, .ref (A 0)), (2, .ref (A 179)), (3, .ref (A 517)), (4, .int (Int32.ofInt i))] [.int (Int32.ofInt e24)] (Wd A dT s23) (ce + 2) (sl + 12)
  refine z_store X (lv' := [(6, .int (Int32.ofInt e24)), (5, .int (Int32.ofInt e20)), (0, .ref q1), (1, .ref (A 0)), (2, .ref (A 179)), (3, .ref (A 517)), (4, .int (Int32.ofInt i))]) rfl (by decide) (fun _ h => h) (z_goto X (t := 1866) rfl rfl (w_widen (ce' := ce + 29) (sl' := sl + 222) (by first | exact Nat.le_add_right _ _ | exact Nat.add_le_add_left (by decide) _ | omega) (by first | exact Nat.le_add_right _ _ | exact Nat.add_le_add_left (by decide) _ | omega) ?_))
  exact WS_lv (lv := [(0, .ref q1), (1, .ref (A 0)), (2, .ref (A 179)), (3, .ref (A 517)), (4, .int (Int32.ofInt i))]) (List.forall_mem_cons.mpr ⟨(List.Mem.tail _ (List.Mem.tail _ (List.Mem.head _))), (List.forall_mem_cons.mpr ⟨(List.Mem.tail _ (List.Mem.tail _ (List.Mem.tail _ (List.Mem.head _)))), (List.forall_mem_cons.mpr ⟨(List.Mem.tail _ (List.Mem.tail _ (List.Mem.tail _ (List.Mem.tail _ (List.Mem.head _))))), (List.forall_mem_cons.mpr ⟨(List.Mem.tail _ (List.Mem.tail _ (List.Mem.tail _ (List.Mem.tail _ (List.Mem.tail _ (List.Mem.head _)))))), (List.forall_mem_cons.mpr ⟨(List.Mem.tail _ (List.Mem.tail _ (List.Mem.tail _ (List.Mem.tail _ (List.Mem.tail _ (List.Mem.tail _ (List.Mem.head _))))))), (fun q h => absurd h List.not_mem_nil)⟩)⟩)⟩)⟩)⟩) (hk A _ Is23 JRLx_s23 JFEQ_s23 JREQ_s23 JSEQ_s23 JARJ_s23 JPTJ_s23 (by first | exact oq_e8f78630 b25.1 hps23 ws19_89 b16.1 p1 | omega) (by first | exact oq_d7ce4408 ws23_12 ws19_12 p2 | omega) (by first | exact oq_5bcdc35f ws23_74 ws23_0 ws19_74 ws19_0 p3 | omega) (by first | exact oq_5bcdc35f ws23_90 ws23_9 ws19_90 ws19_9 p4 | omega) (by first | exact oq_5bcdc35f ws23_98 ws23_20 ws19_98 ws19_20 p5 | omega) (by first | exact oq_5bcdc35f ws23_97 ws23_28 ws19_97 ws19_28 p6 | omega) (by first | exact oq_5bcdc35f ws23_99 ws23_32 ws19_99 ws19_32 p7 | omega) (by first | exact oq_5bcdc35f ws23_107 ws23_70 ws19_107 ws19_70 p8 | omega) (by first | exact oq_5bc06b03 ws23_83 ws23_12 ws19_83 p9 ws19_12 | omega))
theorem lc_27 (G : GX l s0 D tys a0 dT) (GR : RS0 s0) (SF : SF0 s0) (GT : TXs0 s0) (GW : TXw0 s0) {k : kx_T} (X : AX k 350 dT) (E : kL k = l ∧ kS0 k = s0 ∧ kD k = D ∧ kR k = room_1) {q1 L : Nat} {xs : Nat → Int32} (S : SX k q1 L xs) (hL : L ≤ 3072) (I : Bd s) (jR : RLx s) (jFEQ : FEQ s) (jREQ : REQ 39 234 28 s) (jSEQ : SEQ s) (jARJ : ARJ s) (jPTJ : PTJ s) (p1 : iI s 89 = 1) (p2 : iI s 12 ≤ 8) (p3 : iI s 0 = iI s 74) (p4 : iI s 9 = iI s 90) (p5 : iI s 20 = iI s 98) (p6 : iI s 28 = iI s 97) (p7 : iI s 32 = iI s 99) (p8 : iI s 70 = iI s 107) (p9 : iI s 12 = iI s 83) {i : Int} (hi : 0 ≤ i ∧ i + 6 ≤ (L : Int)) {ce sl : Nat} (hce : ce + 29 ≤ 601024) (hsl : sl + 222 ≤ 7293034) (hk : ∀ (A : Nat → Nat) (t : PS), Bd t → RLx t → FEQ t → REQ 39 234 28 t → SEQ t → ARJ t → PTJ t → iI t 89 = 1 → iI t 12 ≤ 8 → iI t 0 = iI t 74 → iI t 9 = iI t 90 → iI t 20 = iI t 98 → iI t 28 = iI t 97 → iI t 32 = iI t 99 → iI t 70 = iI t 107 → iI t 12 = iI t 83 → WS k 1866 [(0, .ref q1), (1, .ref (A 0)), (2, .ref (A 179)), (3, .ref (A 517)), (4, .int (Int32.ofInt i))] [] (Wd A dT t) (ce + 29) (sl + 222)) : WS k 1171 [(0, .ref q1), (1, .ref (A 0)), (2, .ref (A 179)), (3, .ref (A 517)), (4, .int (Int32.ofInt i))] [] (Wd A dT s) ce sl := by
  have F : Fm [33, 73, 96] [1460] s s := fm_rf _ _ s
  have b1 := bi_0 I
  have b2 := bi_74 I
  have b3 := bi_9 I
  have b4 := bi_90 I
  have b5 := bi_20 I
  have b6 := bi_98 I
  have b7 := bi_28 I
  have b8 := bi_97 I
  have b9 := bi_32 I
  have b10 := bi_99 I
  have b11 := bi_70 I
  have b12 := bi_107 I
  have b13 := bi_12 I
  have b14 := bi_83 I
  have b15 := bi_12 I
  have b16 := bi_89 I
  refine z_aload_n X (x := A 0) rfl (List.Mem.tail _ (List.Mem.head _)) (z_aload_n X (x := q1) rfl (List.Mem.head _) (z_load X (x := i) rfl (List.Mem.tail _ (List.Mem.tail _ (List.Mem.tail _ (List.Mem.tail _ (List.Mem.head _))))) (z_const X rfl (z_add X rfl (z_sld X S hL rfl (show 0 ≤ (i + 1) ∧ (i + 1) < (L : Int) by first | exact sx_in hi (by decide) | omega) ?_)))))
  have sr17 : rng (sc xs (i + 1)) := sc_rng
  refine z_aload_n X (x := A 517) rfl (List.Mem.tail _ (List.Mem.tail _ (List.Mem.tail _ (List.Mem.head _)))) (z_callL X (rm := rmN 336) (As := [.ref (A 0), .int (Int32.ofInt (sc xs (i + 1))), .ref (A 517)]) (st := []) rfl (by decide) rfl (by rw [E.1, E.2.1, E.2.2.1]; exact lw_busy G I (by omega)) ⟨by rw [E.2.2.2]; exact (show 8 + 1 ≤ 2048 by decide), by rw [E.2.2.2]; exact (show 8 + (4 + 11) + 145 ≤ 84000 by decide), by rw [E.2.2.2]; exact (show ce + 1 ≤ 601024 by first | exact rmo_1 hce (by decide) | exact rmo_2 hce (by decide) | omega), by rw [E.2.2.2]; exact (show sl + 6 ≤ 7293034 by first | exact rmo_1 hsl (by decide) | exact rmo_2 hsl (by decide) | omega)⟩ (Nat.le_of_ble_eq_true rfl) (fun vv A s18 hA2 hq => ?_) (fun ee A s18 hA2 hq => ?_))
  rotate_left
  · obtain ⟨Is18, Fs18, e19, hv, hrs18, hps18⟩ := hq; cases hv
  obtain ⟨Is18, Fs18, e19, hv, hrs18, hps18⟩ := hq
  cases hv
  rw [← hA2 0 (by decide)]
  rw [← hA2 179 (by decide)]
  rw [← hA2 517 (by decide)]
  have JRLx_s18 : RLx s18 := RLx_fm Fs18 (by decide) jR
  have JFEQ_s18 : FEQ s18 := FEQ_fm Fs18 (by decide) jFEQ
  have JREQ_s18 : REQ 39 234 28 s18 := REQ_fm Fs18 (by decide) jREQ
  have JSEQ_s18 : SEQ s18 := SEQ_fm Fs18 (by decide) jSEQ
  have JARJ_s18 : ARJ s18 := ARJ_fm Fs18 ⟨by decide +kernel, by decide +kernel, by decide +kernel, by decide +kernel, by decide +kernel, by decide +kernel, by decide +kernel, by decide +kernel⟩ jARJ
  have JPTJ_s18 : PTJ s18 := PTJ_fm Fs18 (by decide +kernel) jPTJ
  have ws18_0 : iI s18 0 = iI s 0 := fm_iq Fs18 rfl
  have ws18_74 : iI s18 74 = iI s 74 := fm_iq Fs18 rfl
  have ws18_9 : iI s18 9 = iI s 9 := fm_iq Fs18 rfl
  have ws18_90 : iI s18 90 = iI s 90 := fm_iq Fs18 rfl
  have ws18_20 : iI s18 20 = iI s 20 := fm_iq Fs18 rfl
  have ws18_98 : iI s18 98 = iI s 98 := fm_iq Fs18 rfl
  have ws18_28 : iI s18 28 = iI s 28 := fm_iq Fs18 rfl
  have ws18_97 : iI s18 97 = iI s 97 := fm_iq Fs18 rfl
  have ws18_32 : iI s18 32 = iI s 32 := fm_iq Fs18 rfl
  have ws18_99 : iI s18 99 = iI s 99 := fm_iq Fs18 rfl
  have ws18_70 : iI s18 70 = iI s 70 := fm_iq Fs18 rfl
  have ws18_107 : iI s18 107 = iI s 107 := fm_iq Fs18 rfl
  have ws18_12 : iI s18 12 = iI s 12 := fm_iq Fs18 rfl
  have ws18_83 : iI s18 83 = iI s 83 := fm_iq Fs18 rfl
  have ws18_12 : iI s18 12 = iI s 12 := fm_iq Fs18 rfl
  have ws18_89 : iI s18 89 = iI s 89 := fm_iq Fs18 rfl
  show WS k 1182 [(0, .ref q1), (1, .ref (A 0)), (2, .ref (A 179)), (3, .ref (A 517)), (4, .int (Int32.ofInt i))] [.int (Int32.ofInt e19)] (Wd A dT s18) (ce + 1) (sl + 6)
  refine z_store X (lv' := [(5, .int (Int32.ofInt e19)), (0, .ref q1), (1, .ref (A 0)), (2, .ref (A 179)), (3, .ref (A 517)), (4, .int (Int32.ofInt i))]) rfl (by decide) (fun _ h => h) (z_aload_n X (x := A 179) rfl (List.Mem.tail _ (List.Mem.tail _ (List.Mem.tail _ (List.Mem.head _)))) (z_aload_n X (x := q1) rfl (List.Mem.tail _ (List.Mem.head _)) (z_load X (x := i) rfl (List.Mem.tail _ (List.Mem.tail _ (List.Mem.tail _ (List.Mem.tail _ (List.Mem.tail _ (List.Mem.head _)))))) (z_const X rfl (z_add X rfl (z_sld X S hL rfl (show 0 ≤ (i + 1) ∧ (i + 1) < (L : Int) by first | exact sx_in hi (by decide) | omega) ?_))))))
  have sr20 : rng (sc xs (i + 1)) := sc_rng
  refine z_callV X 179 (rm := rmN 268) (As := [.int (Int32.ofInt (sc xs (i + 1)))]) (st := []) rfl rfl (by decide) rfl (by rw [E.1, E.2.1, E.2.2.1]; exact k_busy G Is18 (by first | exact ⟨sr20.1, sr20.2⟩ | omega)) ⟨by rw [E.2.2.2]; exact (show 7 + 1 ≤ 2048 from oq_4e6106eb), by rw [E.2.2.2]; exact (show 8 + (3 + 11) + 122 ≤ 84000 from oq_38d194b9), by rw [E.2.2.2]; exact (show (ce + 1) + 0 ≤ 601024 by omega), by rw [E.2.2.2]; exact (show (sl + 6) + 0 ≤ 7293034 by omega)⟩ (Nat.le_of_ble_eq_true rfl) (fun vv s21 hq => ?_) (fun ee s21 hq => ?_)
  rotate_left
  · obtain ⟨Is21, Fs21, e22, hv, hrs21, hps21⟩ := hq; cases hv
  obtain ⟨Is21, Fs21, e22, hv, hrs21, hps21⟩ := hq
  cases hv
  have JRLx_s21 : RLx s21 := RLx_fm Fs21 (by decide) JRLx_s18
  have JFEQ_s21 : FEQ s21 := FEQ_fm Fs21 (by decide) JFEQ_s18
  have JREQ_s21 : REQ 39 234 28 s21 := REQ_fm Fs21 (by decide) JREQ_s18
  have JSEQ_s21 : SEQ s21 := SEQ_fm Fs21 (by decide) JSEQ_s18
  have JARJ_s21 : ARJ s21 := ARJ_fm Fs21 ⟨by decide +kernel, by decide +kernel, by decide +kernel, by decide +kernel, by decide +kernel, by decide +kernel, by decide +kernel, by decide +kernel⟩ JARJ_s18
  have JPTJ_s21 : PTJ s21 := PTJ_fm Fs21 (by decide +kernel) JPTJ_s18
  have ws21_0 : iI s21 0 = iI s18 0 := fm_iq Fs21 rfl
  have ws21_74 : iI s21 74 = iI s18 74 := fm_iq Fs21 rfl
  have ws21_9 : iI s21 9 = iI s18 9 := fm_iq Fs21 rfl
  have ws21_90 : iI s21 90 = iI s18 90 := fm_iq Fs21 rfl
  have ws21_20 : iI s21 20 = iI s18 20 := fm_iq Fs21 rfl
  have ws21_98 : iI s21 98 = iI s18 98 := fm_iq Fs21 rfl
  have ws21_28 : iI s21 28 = iI s18 28 := fm_iq Fs21 rfl
  have ws21_97 : iI s21 97 = iI s18 97 := fm_iq Fs21 rfl
  have ws21_32 : iI s21 32 = iI s18 32 := fm_iq Fs21 rfl
  have ws21_99 : iI s21 99 = iI s18 99 := fm_iq Fs21 rfl
  have ws21_70 : iI s21 70 = iI s18 70 := fm_iq Fs21 rfl
  have ws21_107 : iI s21 107 = iI s18 107 := fm_iq Fs21 rfl
  have ws21_12 : iI s21 12 = iI s18 12 := fm_iq Fs21 rfl
  have ws21_83 : iI s21 83 = iI s18 83 := fm_iq Fs21 rfl
  have ws21_12 : iI s21 12 = iI s18 12 := fm_iq Fs21 rfl
  have ws21_89 : iI s21 89 = iI s18 89 := fm_iq Fs21 rfl
  have wos21 : iO s21 = iO s18 := fm_o Fs21 (by decide)
  show WS k 1194 [(5, .int (Int32.ofInt e19)), (0, .ref q1), (1, .ref (A 0)), (2, .ref (A 179)), (3, .ref (A 517)), (4, .int (Int32.ofInt i))] [.int (Int32.ofInt e22)] (Wd A dT s21) (ce + 1) (sl + 6)
  refine z_store X (lv' := [(6, .int (Int32.ofInt e22)), (5, .int (Int32.ofInt e19)), (0, .ref q1), (1, .ref (A 0)), (2, .ref (A 179)), (3, .ref (A 517)), (4, .int (Int32.ofInt i))]) rfl (by decide) (fun _ h => h) (z_goto X (t := 1866) rfl rfl (w_widen (ce' := ce + 29) (sl' := sl + 222) (by first | exact Nat.le_add_right _ _ | exact Nat.add_le_add_left (by decide) _ | omega) (by first | exact Nat.le_add_right _ _ | exact Nat.add_le_add_left (by decide) _ | omega) ?_))
  exact WS_lv (lv := [(0, .ref q1), (1, .ref (A 0)), (2, .ref (A 179)), (3, .ref (A 517)), (4, .int (Int32.ofInt i))]) (List.forall_mem_cons.mpr ⟨(List.Mem.tail _ (List.Mem.tail _ (List.Mem.head _))), (List.forall_mem_cons.mpr ⟨(List.Mem.tail _ (List.Mem.tail _ (List.Mem.tail _ (List.Mem.head _)))), (List.forall_mem_cons.mpr ⟨(List.Mem.tail _ (List.Mem.tail _ (List.Mem.tail _ (List.Mem.tail _ (List.Mem.head _))))), (List.forall_mem_cons.mpr ⟨(List.Mem.tail _ (List.Mem.tail _ (List.Mem.tail _ (List.Mem.tail _ (List.Mem.tail _ (List.Mem.head _)))))), (List.forall_mem_cons.mpr ⟨(List.Mem.tail _ (List.Mem.tail _ (List.Mem.tail _ (List.Mem.tail _ (List.Mem.tail _ (List.Mem.tail _ (List.Mem.head _))))))), (fun q h => absurd h List.not_mem_nil)⟩)⟩)⟩)⟩)⟩) (hk A _ Is21 JRLx_s21 JFEQ_s21 JREQ_s21 JSEQ_s21 JARJ_s21 JPTJ_s21 (by first | exact oq_f34933ba ws21_89 ws18_89 p1 b16.1 | omega) (by first | exact oq_d7ce4408 ws21_12 ws18_12 p2 | omega) (by first | exact oq_5bcdc35f ws21_74 ws21_0 ws18_74 ws18_0 p3 | omega) (by first | exact oq_5bcdc35f ws21_90 ws21_9 ws18_90 ws18_9 p4 | omega) (by first | exact oq_5bcdc35f ws21_98 ws21_20 ws18_98 ws18_20 p5 | omega) (by first | exact oq_5bcdc35f ws21_97 ws21_28 ws18_97 ws18_28 p6 | omega) (by first | exact oq_5bcdc35f ws21_99 ws21_32 ws18_99 ws18_32 p7 | omega) (by first | exact oq_5bcdc35f ws21_107 ws21_70 ws18_107 ws18_70 p8 | omega) (by first | exact oq_5bc06b03 ws21_83 ws21_12 ws18_83 p9 ws18_12 | omega))
theorem lc_28 (G : GX l s0 D tys a0 dT) (GR : RS0 s0) (SF : SF0 s0) (GT : TXs0 s0) (GW : TXw0 s0) {k : kx_T} (X : AX k 350 dT) (E : kL k = l ∧ kS0 k = s0 ∧ kD k = D ∧ kR k = room_1) {q1 L : Nat} {xs : Nat → Int32} (S : SX k q1 L xs) (hL : L ≤ 3072) (I : Bd s) (jR : RLx s) (jFEQ : FEQ s) (jREQ : REQ 39 234 28 s) (jSEQ : SEQ s) (jARJ : ARJ s) (jPTJ : PTJ s) (p1 : iI s 89 = 1) (p2 : iI s 12 ≤ 8) (p3 : iI s 0 = iI s 74) (p4 : iI s 9 = iI s 90) (p5 : iI s 20 = iI s 98) (p6 : iI s 28 = iI s 97) (p7 : iI s 32 = iI s 99) (p8 : iI s 70 = iI s 107) (p9 : iI s 12 = iI s 83) {i : Int} (hi : 0 ≤ i ∧ i + 6 ≤ (L : Int)) {ce sl : Nat} (hce : ce + 29 ≤ 601024) (hsl : sl + 222 ≤ 7293034) (hk : ∀ (A : Nat → Nat) (t : PS), Bd t → RLx t → FEQ t → REQ 39 234 28 t → SEQ t → ARJ t → PTJ t → iI t 89 = 1 → iI t 12 ≤ 8 → iI t 0 = iI t 74 → iI t 9 = iI t 90 → iI t 20 = iI t 98 → iI t 28 = iI t 97 → iI t 32 = iI t 99 → iI t 70 = iI t 107 → iI t 12 = iI t 83 → WS k 1866 [(0, .ref q1), (1, .ref (A 0)), (2, .ref (A 179)), (3, .ref (A 517)), (4, .int (Int32.ofInt i))] [] (Wd A dT t) (ce + 29) (sl + 222)) : WS k 1199 [(0, .ref q1), (1, .ref (A 0)), (2, .ref (A 179)), (3, .ref (A 517)), (4, .int (Int32.ofInt i))] [] (Wd A dT s) ce sl := by
  have F : Fm [22, 23, 24, 34, 35, 73, 77, 75, 78, 79, 80, 81, 89] [33, 26, 27, 28, 29, 30, 31, 32, 20, 48, 47, 49, 50, 51, 1460, 161, 230, 202, 204, 205, 206, 207, 208, 209, 210, 211, 212, 213, 214, 215, 216, 217, 218, 219, 220, 221, 222, 223, 224, 225, 226, 227, 203, 395, 396, 245, 246, 247, 248, 249, 250, 251, 252, 253, 254, 255, 256, 257, 258, 259, 260, 261, 262, 263, 264, 265, 266, 267, 268, 269, 270, 271, 272, 273, 274, 275, 276, 277, 278, 279, 280, 281, 282, 283, 284, 285, 286, 287, 288, 289, 290, 291, 292, 293, 294, 295, 296, 297, 298, 299, 300, 301, 302, 303, 304, 305, 306, 307, 308, 309, 310, 311, 312, 313, 314, 315, 316, 317, 318, 319, 320, 321, 322, 323, 324, 325, 326, 327, 328, 329, 330, 331, 332, 333, 334, 335, 336, 337, 338, 339, 340, 341, 342, 343, 344, 345, 346, 347, 348, 349, 350, 351, 352, 353, 354, 355, 356, 357, 358, 359, 360, 361, 362, 363, 364, 365, 366, 367, 368, 369, 370, 371, 372, 373, 374, 375, 376, 377, 378, 379, 380, 381, 382, 383, 384, 385, 386, 387, 388, 389, 390, 391, 392, 393, 394] s s := fm_rf _ _ s
  have b1 := bi_0 I
  have b2 := bi_74 I
  have b3 := bi_9 I
  have b4 := bi_90 I
  have b5 := bi_20 I
  have b6 := bi_98 I
  have b7 := bi_28 I
  have b8 := bi_97 I
  have b9 := bi_32 I
  have b10 := bi_99 I
  have b11 := bi_70 I
  have b12 := bi_107 I
  have b13 := bi_12 I
  have b14 := bi_83 I
  have b15 := bi_12 I
  have b16 := bi_89 I
  refine z_aload_n X (x := A 0) rfl (List.Mem.tail _ (List.Mem.head _)) (z_aload_n X (x := q1) rfl (List.Mem.head _) (z_load X (x := i) rfl (List.Mem.tail _ (List.Mem.tail _ (List.Mem.tail _ (List.Mem.tail _ (List.Mem.head _))))) (z_const X rfl (z_add X rfl (z_sld X S hL rfl (show 0 ≤ (i + 1) ∧ (i + 1) < (L : Int) by first | exact sx_in hi (by decide) | omega) ?_)))))
  have sr17 : rng (sc xs (i + 1)) := sc_rng
  refine z_aload_n X (x := q1) rfl (List.Mem.head _) (z_load X (x := i) rfl (List.Mem.tail _ (List.Mem.tail _ (List.Mem.tail _ (List.Mem.tail _ (List.Mem.head _))))) (z_const X rfl (z_add X rfl (z_sld X S hL rfl (show 0 ≤ (i + 2) ∧ (i + 2) < (L : Int) by first | exact sx_in hi (by decide) | omega) ?_))))
  have sr18 : rng (sc xs (i + 2)) := sc_rng
  refine z_aload_n X (x := A 517) rfl (List.Mem.tail _ (List.Mem.tail _ (List.Mem.tail _ (List.Mem.head _)))) (z_callL X (rm := rmN 337) (As := [.ref (A 0), .int (Int32.ofInt (sc xs (i + 1))), .int (Int32.ofInt (sc xs (i + 2))), .ref (A 517)]) (st := []) rfl (by decide) rfl (by rw [E.1, E.2.1, E.2.2.1]; exact lw_plan G I (by omega) (by omega) (by omega)) ⟨by rw [E.2.2.2]; exact (show 13 + 1 ≤ 2048 by decide), by rw [E.2.2.2]; exact (show 8 + (5 + 11) + 273 ≤ 84000 by decide), by rw [E.2.2.2]; exact (show ce + 2 ≤ 601024 by first | exact rmo_1 hce (by decide) | exact rmo_2 hce (by decide) | omega), by rw [E.2.2.2]; exact (show sl + 12 ≤ 7293034 by first | exact rmo_1 hsl (by decide) | exact rmo_2 hsl (by decide) | omega)⟩ (Nat.le_of_ble_eq_true rfl) (fun vv A s19 hA2 hq => ?_) (fun ee A s19 hA2 hq => ?_))
  rotate_left
  · obtain ⟨Is19, Fs19, e20, hv, hrs19, hps19⟩ := hq; cases hv
  obtain ⟨Is19, Fs19, e20, hv, hrs19, hps19⟩ := hq
  cases hv
  rw [← hA2 0 (by decide)]
  rw [← hA2 179 (by decide)]
  rw [← hA2 517 (by decide)]
  have JRLx_s19 : RLx s19 := RLx_fm Fs19 (by decide) jR
  have JFEQ_s19 : FEQ s19 := FEQ_fm Fs19 (by decide) jFEQ
  have JREQ_s19 : REQ 39 234 28 s19 := REQ_fm Fs19 (by decide) jREQ
  have JSEQ_s19 : SEQ s19 := SEQ_fm Fs19 (by decide) jSEQ
  have JARJ_s19 : ARJ s19 := ARJ_fm Fs19 ⟨by decide +kernel, by decide +kernel, by decide +kernel, by decide +kernel, by decide +kernel, by decide +kernel, by decide +kernel, by decide +kernel⟩ jARJ
  have JPTJ_s19 : PTJ s19 := PTJ_fm Fs19 (by decide +kernel) jPTJ
  have ws19_0 : iI s19 0 = iI s 0 := fm_iq Fs19 rfl
  have ws19_74 : iI s19 74 = iI s 74 := fm_iq Fs19 rfl
  have ws19_9 : iI s19 9 = iI s 9 := fm_iq Fs19 rfl
  have ws19_90 : iI s19 90 = iI s 90 := fm_iq Fs19 rfl
  have ws19_20 : iI s19 20 = iI s 20 := fm_iq Fs19 rfl
  have ws19_98 : iI s19 98 = iI s 98 := fm_iq Fs19 rfl
  have ws19_28 : iI s19 28 = iI s 28 := fm_iq Fs19 rfl
  have ws19_97 : iI s19 97 = iI s 97 := fm_iq Fs19 rfl
  have ws19_32 : iI s19 32 = iI s 32 := fm_iq Fs19 rfl
  have ws19_99 : iI s19 99 = iI s 99 := fm_iq Fs19 rfl
  have ws19_70 : iI s19 70 = iI s 70 := fm_iq Fs19 rfl
  have ws19_107 : iI s19 107 = iI s 107 := fm_iq Fs19 rfl
  have ws19_12 : iI s19 12 = iI s 12 := fm_iq Fs19 rfl
  have ws19_83 : iI s19 83 = iI s 83 := fm_iq Fs19 rfl
  have ws19_12 : iI s19 12 = iI s 12 := fm_iq Fs19 rfl
  have ws19_89 : iI s19 89 = iI s 89 := fm_iq Fs19 rfl
  show WS k 1216 [(0, .ref q1), (1, .ref (A 0)), (2, .ref (A 179)), (3, .ref (A 517)), (4, .int (Int32.ofInt i))] [.int (Int32.ofInt e20)] (Wd A dT s19) (ce + 2) (sl + 12)
  refine z_store X (lv' := [(5, .int (Int32.ofInt e20)), (0, .ref q1), (1, .ref (A 0)), (2, .ref (A 179)), (3, .ref (A 517)), (4, .int (Int32.ofInt i))]) rfl (by decide) (fun _ h => h) (z_aload_n X (x := A 179) rfl (List.Mem.tail _ (List.Mem.tail _ (List.Mem.tail _ (List.Mem.head _)))) (z_aload_n X (x := q1) rfl (List.Mem.tail _ (List.Mem.head _)) (z_load X (x := i) rfl (List.Mem.tail _ (List.Mem.tail _ (List.Mem.tail _ (List.Mem.tail _ (List.Mem.tail _ (List.Mem.head _)))))) (z_const X rfl (z_add X rfl (z_sld X S hL rfl (show 0 ≤ (i + 1) ∧ (i + 1) < (L : Int) by first | exact sx_in hi (by decide) | omega) ?_))))))
  have sr21 : rng (sc xs (i + 1)) := sc_rng
  refine z_aload_n X (x := q1) rfl (List.Mem.tail _ (List.Mem.head _)) (z_load X (x := i) rfl (List.Mem.tail _ (List.Mem.tail _ (List.Mem.tail _ (List.Mem.tail _ (List.Mem.tail _ (List.Mem.head _)))))) (z_const X rfl (z_add X rfl (z_sld X S hL rfl (show 0 ≤ (i + 2) ∧ (i + 2) < (L : Int) by first | exact sx_in hi (by decide) | omega) ?_))))
  have sr22 : rng (sc xs (i + 2)) := sc_rng
  refine z_callV X 179 (rm := rmN 272) (As := [.int (Int32.ofInt (sc xs (i + 1))), .int (Int32.ofInt (sc xs (i + 2)))]) (st := []) rfl rfl (by decide) rfl (by rw [E.1, E.2.1, E.2.2.1]; exact k_plan G Is19 JRLx_s19 (by first | exact ⟨sr21.1, sr21.2⟩ | omega) (by first | exact ⟨sr22.1, sr22.2⟩ | omega) (by first | exact oq_b44a1c7f ws19_89 p1 b16.1 | omega)) ⟨by rw [E.2.2.2]; exact (show 64 + 1 ≤ 2048 from oq_5cbe2cb6), by rw [E.2.2.2]; exact (show 8 + (6 + 11) + 2742 ≤ 84000 from oq_276d7037), by rw [E.2.2.2]; exact (show (ce + 2) + 0 ≤ 601024 by omega), by rw [E.2.2.2]; exact (show (sl + 12) + 0 ≤ 7293034 by omega)⟩ (Nat.le_of_ble_eq_true rfl) (fun vv s23 hq => ?_) (fun ee s23 hq => ?_)
  rotate_left
  · obtain ⟨Is23, Fs23, JRLx_s23, e24, hv, hrs23, hps23⟩ := hq; cases hv
  obtain ⟨Is23, Fs23, JRLx_s23, e24, hv, hrs23, hps23⟩ := hq
  cases hv
  have JRLx_s23 : RLx s23 := RLx_fm Fs23 (by decide) JRLx_s19
  have JFEQ_s23 : FEQ s23 := FEQ_fm Fs23 (by decide) JFEQ_s19
  have JREQ_s23 : REQ 39 234 28 s23 := REQ_fm Fs23 (by decide) JREQ_s19
  have JSEQ_s23 : SEQ s23 := SEQ_fm Fs23 (by decide) JSEQ_s19
  have JARJ_s23 : ARJ s23 := ARJ_fm Fs23 ⟨by decide +kernel, by decide +kernel, by decide +kernel, by decide +kernel, by decide +kernel, by decide +kernel, by decide +kernel, by decide +kernel⟩ JARJ_s19
  have JPTJ_s23 : PTJ s23 := PTJ_fm Fs23 (by decide +kernel) JPTJ_s19
  have ws23_0 : iI s23 0 = iI s19 0 := fm_iq Fs23 rfl
  have ws23_74 : iI s23 74 = iI s19 74 := fm_iq Fs23 rfl
  have ws23_9 : iI s23 9 = iI s19 9 := fm_iq Fs23 rfl
  have ws23_90 : iI s23 90 = iI s19 90 := fm_iq Fs23 rfl
  have ws23_20 : iI s23 20 = iI s19 20 := fm_iq Fs23 rfl
  have ws23_98 : iI s23 98 = iI s19 98 := fm_iq Fs23 rfl
  have ws23_28 : iI s23 28 = iI s19 28 := fm_iq Fs23 rfl
  have ws23_97 : iI s23 97 = iI s19 97 := fm_iq Fs23 rfl
  have ws23_32 : iI s23 32 = iI s19 32 := fm_iq Fs23 rfl
  have ws23_99 : iI s23 99 = iI s19 99 := fm_iq Fs23 rfl
  have ws23_70 : iI s23 70 = iI s19 70 := fm_iq Fs23 rfl
  have ws23_107 : iI s23 107 = iI s19 107 := fm_iq Fs23 rfl
  have ws23_12 : iI s23 12 = iI s19 12 := fm_iq Fs23 rfl
  have ws23_83 : iI s23 83 = iI s19 83 := fm_iq Fs23 rfl
  have ws23_12 : iI s23 12 = iI s19 12 := fm_iq Fs23 rfl
  have b25 := bi_89 Is23
  have wos23 : iO s23 = iO s19 := fm_o Fs23 (by decide)
  show WS k 1234 [(5, .int (Int32.ofInt e20)), (0, .ref q1), (1, .ref (A 0)), (2, .ref (A 179)), (3, .ref (A 517)), (4, .int (Int32.ofInt i))] [.int (Int32.ofInt e24)] (Wd A dT s23) (ce + 2) (sl + 12)
  refine z_store X (lv' := [(6, .int (Int32.ofInt e24)), (5, .int (Int32.ofInt e20)), (0, .ref q1), (1, .ref (A 0)), (2, .ref (A 179)), (3, .ref (A 517)), (4, .int (Int32.ofInt i))]) rfl (by decide) (fun _ h => h) (z_goto X (t := 1866) rfl rfl (w_widen (ce' := ce + 29) (sl' := sl + 222) (by first | exact Nat.le_add_right _ _ | exact Nat.add_le_add_left (by decide) _ | omega) (by first | exact Nat.le_add_right _ _ | exact Nat.add_le_add_left (by decide) _ | omega) ?_))
  exact WS_lv (lv := [(0, .ref q1), (1, .ref (A 0)), (2, .ref (A 179)), (3, .ref (A 517)), (4, .int (Int32.ofInt i))]) (List.forall_mem_cons.mpr ⟨(List.Mem.tail _ (List.Mem.tail _ (List.Mem.head _))), (List.forall_mem_cons.mpr ⟨(List.Mem.tail _ (List.Mem.tail _ (List.Mem.tail _ (List.Mem.head _)))), (List.forall_mem_cons.mpr ⟨(List.Mem.tail _ (List.Mem.tail _ (List.Mem.tail _ (List.Mem.tail _ (List.Mem.head _))))), (List.forall_mem_cons.mpr ⟨(List.Mem.tail _ (List.Mem.tail _ (List.Mem.tail _ (List.Mem.tail _ (List.Mem.tail _ (List.Mem.head _)))))), (List.forall_mem_cons.mpr ⟨(List.Mem.tail _ (List.Mem.tail _ (List.Mem.tail _ (List.Mem.tail _ (List.Mem.tail _ (List.Mem.tail _ (List.Mem.head _))))))), (fun q h => absurd h List.not_mem_nil)⟩)⟩)⟩)⟩)⟩) (hk A _ Is23 JRLx_s23 JFEQ_s23 JREQ_s23 JSEQ_s23 JARJ_s23 JPTJ_s23 (by first | exact hps23 | omega) (by first | exact oq_d7ce4408 ws23_12 ws19_12 p2 | omega) (by first | exact oq_5bcdc35f ws23_74 ws23_0 ws19_74 ws19_0 p3 | omega) (by first | exact oq_5bcdc35f ws23_90 ws23_9 ws19_90 ws19_9 p4 | omega) (by first | exact oq_5bcdc35f ws23_98 ws23_20 ws19_98 ws19_20 p5 | omega) (by first | exact oq_5bcdc35f ws23_97 ws23_28 ws19_97 ws19_28 p6 | omega) (by first | exact oq_5bcdc35f ws23_99 ws23_32 ws19_99 ws19_32 p7 | omega) (by first | exact oq_5bcdc35f ws23_107 ws23_70 ws19_107 ws19_70 p8 | omega) (by first | exact oq_5bc06b03 ws23_83 ws23_12 ws19_83 p9 ws19_12 | omega))
theorem lc_29 (G : GX l s0 D tys a0 dT) (GR : RS0 s0) (SF : SF0 s0) (GT : TXs0 s0) (GW : TXw0 s0) {k : kx_T} (X : AX k 350 dT) (E : kL k = l ∧ kS0 k = s0 ∧ kD k = D ∧ kR k = room_1) {q1 L : Nat} {xs : Nat → Int32} (S : SX k q1 L xs) (hL : L ≤ 3072) (I : Bd s) (jR : RLx s) (jFEQ : FEQ s) (jREQ : REQ 39 234 28 s) (jSEQ : SEQ s) (jARJ : ARJ s) (jPTJ : PTJ s) (p1 : iI s 89 = 1) (p2 : iI s 12 ≤ 8) (p3 : iI s 0 = iI s 74) (p4 : iI s 9 = iI s 90) (p5 : iI s 20 = iI s 98) (p6 : iI s 28 = iI s 97) (p7 : iI s 32 = iI s 99) (p8 : iI s 70 = iI s 107) (p9 : iI s 12 = iI s 83) {i : Int} (hi : 0 ≤ i ∧ i + 6 ≤ (L : Int)) {ce sl : Nat} (hce : ce + 29 ≤ 601024) (hsl : sl + 222 ≤ 7293034) (hk : ∀ (A : Nat → Nat) (t : PS), Bd t → RLx t → FEQ t → REQ 39 234 28 t → SEQ t → ARJ t → PTJ t → iI t 89 = 1 → iI t 12 ≤ 8 → iI t 0 = iI t 74 → iI t 9 = iI t 90 → iI t 20 = iI t 98 → iI t 28 = iI t 97 → iI t 32 = iI t 99 → iI t 70 = iI t 107 → iI t 12 = iI t 83 → WS k 1866 [(0, .ref q1), (1, .ref (A 0)), (2, .ref (A 179)), (3, .ref (A 517)), (4, .int (Int32.ofInt i))] [] (Wd A dT t) (ce + 29) (sl + 222)) : WS k 1239 [(0, .ref q1), (1, .ref (A 0)), (2, .ref (A 179)), (3, .ref (A 517)), (4, .int (Int32.ofInt i))] [] (Wd A dT s) ce sl := by
  have F : Fm [36, 37, 73, 102, 103] [1460] s s := fm_rf _ _ s
  have b1 := bi_0 I
  have b2 := bi_74 I
  have b3 := bi_9 I
  have b4 := bi_90 I
  have b5 := bi_20 I
  have b6 := bi_98 I
  have b7 := bi_28 I
  have b8 := bi_97 I
  have b9 := bi_32 I
  have b10 := bi_99 I
  have b11 := bi_70 I
  have b12 := bi_107 I
  have b13 := bi_12 I
  have b14 := bi_83 I
  have b15 := bi_12 I
  have b16 := bi_89 I
  refine z_aload_n X (x := A 0) rfl (List.Mem.tail _ (List.Mem.head _)) (z_aload_n X (x := q1) rfl (List.Mem.head _) (z_load X (x := i) rfl (List.Mem.tail _ (List.Mem.tail _ (List.Mem.tail _ (List.Mem.tail _ (List.Mem.head _))))) (z_const X rfl (z_add X rfl (z_sld X S hL rfl (show 0 ≤ (i + 1) ∧ (i + 1) < (L : Int) by first | exact sx_in hi (by decide) | omega) ?_)))))
  have sr17 : rng (sc xs (i + 1)) := sc_rng
  refine z_aload_n X (x := q1) rfl (List.Mem.head _) (z_load X (x := i) rfl (List.Mem.tail _ (List.Mem.tail _ (List.Mem.tail _ (List.Mem.tail _ (List.Mem.head _))))) (z_const X rfl (z_add X rfl (z_sld X S hL rfl (show 0 ≤ (i + 2) ∧ (i + 2) < (L : Int) by first | exact sx_in hi (by decide) | omega) ?_))))
  have sr18 : rng (sc xs (i + 2)) := sc_rng
  refine z_aload_n X (x := A 517) rfl (List.Mem.tail _ (List.Mem.tail _ (List.Mem.tail _ (List.Mem.head _)))) (z_callL X (rm := rmN 338) (As := [.ref (A 0), .int (Int32.ofInt (sc xs (i + 1))), .int (Int32.ofInt (sc xs (i + 2))), .ref (A 517)]) (st := []) rfl (by decide) rfl (by rw [E.1, E.2.1, E.2.2.1]; exact lw_hours G I (by omega) (by omega)) ⟨by rw [E.2.2.2]; exact (show 8 + 1 ≤ 2048 by decide), by rw [E.2.2.2]; exact (show 8 + (5 + 11) + 145 ≤ 84000 by decide), by rw [E.2.2.2]; exact (show ce + 2 ≤ 601024 by first | exact rmo_1 hce (by decide) | exact rmo_2 hce (by decide) | omega), by rw [E.2.2.2]; exact (show sl + 12 ≤ 7293034 by first | exact rmo_1 hsl (by decide) | exact rmo_2 hsl (by decide) | omega)⟩ (Nat.le_of_ble_eq_true rfl) (fun vv A s19 hA2 hq => ?_) (fun ee A s19 hA2 hq => ?_))
  rotate_left
  · obtain ⟨Is19, Fs19, e20, hv, hrs19, hps19⟩ := hq; cases hv
  obtain ⟨Is19, Fs19, e20, hv, hrs19, hps19⟩ := hq
  cases hv
  rw [← hA2 0 (by decide)]
  rw [← hA2 179 (by decide)]
  rw [← hA2 517 (by decide)]
  have JRLx_s19 : RLx s19 := RLx_fm Fs19 (by decide) jR
  have JFEQ_s19 : FEQ s19 := FEQ_fm Fs19 (by decide) jFEQ
  have JREQ_s19 : REQ 39 234 28 s19 := REQ_fm Fs19 (by decide) jREQ
  have JSEQ_s19 : SEQ s19 := SEQ_fm Fs19 (by decide) jSEQ
  have JARJ_s19 : ARJ s19 := ARJ_fm Fs19 ⟨by decide +kernel, by decide +kernel, by decide +kernel, by decide +kernel, by decide +kernel, by decide +kernel, by decide +kernel, by decide +kernel⟩ jARJ
  have JPTJ_s19 : PTJ s19 := PTJ_fm Fs19 (by decide +kernel) jPTJ
  have ws19_0 : iI s19 0 = iI s 0 := fm_iq Fs19 rfl
  have ws19_74 : iI s19 74 = iI s 74 := fm_iq Fs19 rfl
  have ws19_9 : iI s19 9 = iI s 9 := fm_iq Fs19 rfl
  have ws19_90 : iI s19 90 = iI s 90 := fm_iq Fs19 rfl
  have ws19_20 : iI s19 20 = iI s 20 := fm_iq Fs19 rfl
  have ws19_98 : iI s19 98 = iI s 98 := fm_iq Fs19 rfl
  have ws19_28 : iI s19 28 = iI s 28 := fm_iq Fs19 rfl
  have ws19_97 : iI s19 97 = iI s 97 := fm_iq Fs19 rfl
  have ws19_32 : iI s19 32 = iI s 32 := fm_iq Fs19 rfl
  have ws19_99 : iI s19 99 = iI s 99 := fm_iq Fs19 rfl
  have ws19_70 : iI s19 70 = iI s 70 := fm_iq Fs19 rfl
  have ws19_107 : iI s19 107 = iI s 107 := fm_iq Fs19 rfl
  have ws19_12 : iI s19 12 = iI s 12 := fm_iq Fs19 rfl
  have ws19_83 : iI s19 83 = iI s 83 := fm_iq Fs19 rfl
  have ws19_12 : iI s19 12 = iI s 12 := fm_iq Fs19 rfl
  have ws19_89 : iI s19 89 = iI s 89 := fm_iq Fs19 rfl
  show WS k 1256 [(0, .ref q1), (1, .ref (A 0)), (2, .ref (A 179)), (3, .ref (A 517)), (4, .int (Int32.ofInt i))] [.int (Int32.ofInt e20)] (Wd A dT s19) (ce + 2) (sl + 12)
  refine z_store X (lv' := [(5, .int (Int32.ofInt e20)), (0, .ref q1), (1, .ref (A 0)), (2, .ref (A 179)), (3, .ref (A 517)), (4, .int (Int32.ofInt i))]) rfl (by decide) (fun _ h => h) (z_aload_n X (x := A 179) rfl (List.Mem.tail _ (List.Mem.tail _ (List.Mem.tail _ (List.Mem.head _)))) (z_aload_n X (x := q1) rfl (List.Mem.tail _ (List.Mem.head _)) (z_load X (x := i) rfl (List.Mem.tail _ (List.Mem.tail _ (List.Mem.tail _ (List.Mem.tail _ (List.Mem.tail _ (List.Mem.head _)))))) (z_const X rfl (z_add X rfl (z_sld X S hL rfl (show 0 ≤ (i + 1) ∧ (i + 1) < (L : Int) by first | exact sx_in hi (by decide) | omega) ?_))))))
  have sr21 : rng (sc xs (i + 1)) := sc_rng
  refine z_aload_n X (x := q1) rfl (List.Mem.tail _ (List.Mem.head _)) (z_load X (x := i) rfl (List.Mem.tail _ (List.Mem.tail _ (List.Mem.tail _ (List.Mem.tail _ (List.Mem.tail _ (List.Mem.head _)))))) (z_const X rfl (z_add X rfl (z_sld X S hL rfl (show 0 ≤ (i + 2) ∧ (i + 2) < (L : Int) by first | exact sx_in hi (by decide) | omega) ?_))))
  have sr22 : rng (sc xs (i + 2)) := sc_rng
  refine z_callV X 179 (rm := rmN 273) (As := [.int (Int32.ofInt (sc xs (i + 1))), .int (Int32.ofInt (sc xs (i + 2)))]) (st := []) rfl rfl (by decide) rfl (by rw [E.1, E.2.1, E.2.2.1]; exact k_hours G Is19 (by first | exact ⟨sr21.1, sr21.2⟩ | omega) (by first | exact ⟨sr22.1, sr22.2⟩ | omega)) ⟨by rw [E.2.2.2]; exact (show 7 + 1 ≤ 2048 from oq_4e6106eb), by rw [E.2.2.2]; exact (show 8 + (4 + 11) + 122 ≤ 84000 from oq_ebbf79c1), by rw [E.2.2.2]; exact (show (ce + 2) + 0 ≤ 601024 by omega), by rw [E.2.2.2]; exact (show (sl + 12) + 0 ≤ 7293034 by omega)⟩ (Nat.le_of_ble_eq_true rfl) (fun vv s23 hq => ?_) (fun ee s23 hq => ?_)
  rotate_left
  · obtain ⟨Is23, Fs23, e24, hv, hrs23, hps23⟩ := hq; cases hv
  obtain ⟨Is23, Fs23, e24, hv, hrs23, hps23⟩ := hq
  cases hv
  have JRLx_s23 : RLx s23 := RLx_fm Fs23 (by decide) JRLx_s19
  have JFEQ_s23 : FEQ s23 := FEQ_fm Fs23 (by decide) JFEQ_s19
  have JREQ_s23 : REQ 39 234 28 s23 := REQ_fm Fs23 (by decide) JREQ_s19
  have JSEQ_s23 : SEQ s23 := SEQ_fm Fs23 (by decide) JSEQ_s19
  have JARJ_s23 : ARJ s23 := ARJ_fm Fs23 ⟨by decide +kernel, by decide +kernel, by decide +kernel, by decide +kernel, by decide +kernel, by decide +kernel, by decide +kernel, by decide +kernel⟩ JARJ_s19
  have JPTJ_s23 : PTJ s23 := PTJ_fm Fs23 (by decide +kernel) JPTJ_s19
  have ws23_0 : iI s23 0 = iI s19 0 := fm_iq Fs23 rfl
  have ws23_74 : iI s23 74 = iI s19 74 := fm_iq Fs23 rfl
  have ws23_9 : iI s23 9 = iI s19 9 := fm_iq Fs23 rfl
  have ws23_90 : iI s23 90 = iI s19 90 := fm_iq Fs23 rfl
  have ws23_20 : iI s23 20 = iI s19 20 := fm_iq Fs23 rfl
  have ws23_98 : iI s23 98 = iI s19 98 := fm_iq Fs23 rfl
  have ws23_28 : iI s23 28 = iI s19 28 := fm_iq Fs23 rfl
  have ws23_97 : iI s23 97 = iI s19 97 := fm_iq Fs23 rfl
  have ws23_32 : iI s23 32 = iI s19 32 := fm_iq Fs23 rfl
  have ws23_99 : iI s23 99 = iI s19 99 := fm_iq Fs23 rfl
  have ws23_70 : iI s23 70 = iI s19 70 := fm_iq Fs23 rfl
  have ws23_107 : iI s23 107 = iI s19 107 := fm_iq Fs23 rfl
  have ws23_12 : iI s23 12 = iI s19 12 := fm_iq Fs23 rfl
  have ws23_83 : iI s23 83 = iI s19 83 := fm_iq Fs23 rfl
  have ws23_12 : iI s23 12 = iI s19 12 := fm_iq Fs23 rfl
  have ws23_89 : iI s23 89 = iI s19 89 := fm_iq Fs23 rfl
  have wos23 : iO s23 = iO s19 := fm_o Fs23 (by decide)
  show WS k 1274 [(5, .int (Int32.ofInt e20)), (0, .ref q1), (1, .ref (A 0)), (2, .ref (A 179)), (3, .ref (A 517)), (4, .int (Int32.ofInt i))] [.int (Int32.ofInt e24)] (Wd A dT s23) (ce + 2) (sl + 12)
  refine z_store X (lv' := [(6, .int (Int32.ofInt e24)), (5, .int (Int32.ofInt e20)), (0, .ref q1), (1, .ref (A 0)), (2, .ref (A 179)), (3, .ref (A 517)), (4, .int (Int32.ofInt i))]) rfl (by decide) (fun _ h => h) (z_goto X (t := 1866) rfl rfl (w_widen (ce' := ce + 29) (sl' := sl + 222) (by first | exact Nat.le_add_right _ _ | exact Nat.add_le_add_left (by decide) _ | omega) (by first | exact Nat.le_add_right _ _ | exact Nat.add_le_add_left (by decide) _ | omega) ?_))
  exact WS_lv (lv := [(0, .ref q1), (1, .ref (A 0)), (2, .ref (A 179)), (3, .ref (A 517)), (4, .int (Int32.ofInt i))]) (List.forall_mem_cons.mpr ⟨(List.Mem.tail _ (List.Mem.tail _ (List.Mem.head _))), (List.forall_mem_cons.mpr ⟨(List.Mem.tail _ (List.Mem.tail _ (List.Mem.tail _ (List.Mem.head _)))), (List.forall_mem_cons.mpr ⟨(List.Mem.tail _ (List.Mem.tail _ (List.Mem.tail _ (List.Mem.tail _ (List.Mem.head _))))), (List.forall_mem_cons.mpr ⟨(List.Mem.tail _ (List.Mem.tail _ (List.Mem.tail _ (List.Mem.tail _ (List.Mem.tail _ (List.Mem.head _)))))), (List.forall_mem_cons.mpr ⟨(List.Mem.tail _ (List.Mem.tail _ (List.Mem.tail _ (List.Mem.tail _ (List.Mem.tail _ (List.Mem.tail _ (List.Mem.head _))))))), (fun q h => absurd h List.not_mem_nil)⟩)⟩)⟩)⟩)⟩) (hk A _ Is23 JRLx_s23 JFEQ_s23 JREQ_s23 JSEQ_s23 JARJ_s23 JPTJ_s23 (by first | exact oq_f34933ba ws23_89 ws19_89 p1 b16.1 | omega) (by first | exact oq_d7ce4408 ws23_12 ws19_12 p2 | omega) (by first | exact oq_5bcdc35f ws23_74 ws23_0 ws19_74 ws19_0 p3 | omega) (by first | exact oq_5bcdc35f ws23_90 ws23_9 ws19_90 ws19_9 p4 | omega) (by first | exact oq_5bcdc35f ws23_98 ws23_20 ws19_98 ws19_20 p5 | omega) (by first | exact oq_5bcdc35f ws23_97 ws23_28 ws19_97 ws19_28 p6 | omega) (by first | exact oq_5bcdc35f ws23_99 ws23_32 ws19_99 ws19_32 p7 | omega) (by first | exact oq_5bcdc35f ws23_107 ws23_70 ws19_107 ws19_70 p8 | omega) (by first | exact oq_5bc06b03 ws23_83 ws23_12 ws19_83 p9 ws19_12 | omega))
theorem lc_30 (G : GX l s0 D tys a0 dT) (GR : RS0 s0) (SF : SF0 s0) (GT : TXs0 s0) (GW : TXw0 s0) {k : kx_T} (X : AX k 350 dT) (E : kL k = l ∧ kS0 k = s0 ∧ kD k = D ∧ kR k = room_1) {q1 L : Nat} {xs : Nat → Int32} (S : SX k q1 L xs) (hL : L ≤ 3072) (I : Bd s) (jR : RLx s) (jFEQ : FEQ s) (jREQ : REQ 39 234 28 s) (jSEQ : SEQ s) (jARJ : ARJ s) (jPTJ : PTJ s) (p1 : iI s 89 = 1) (p2 : iI s 12 ≤ 8) (p3 : iI s 0 = iI s 74) (p4 : iI s 9 = iI s 90) (p5 : iI s 20 = iI s 98) (p6 : iI s 28 = iI s 97) (p7 : iI s 32 = iI s 99) (p8 : iI s 70 = iI s 107) (p9 : iI s 12 = iI s 83) {i : Int} (hi : 0 ≤ i ∧ i + 6 ≤ (L : Int)) {ce sl : Nat} (hce : ce + 29 ≤ 601024) (hsl : sl + 222 ≤ 7293034) (hk : ∀ (A : Nat → Nat) (t : PS), Bd t → RLx t → FEQ t → REQ 39 234 28 t → SEQ t → ARJ t → PTJ t → iI t 89 = 1 → iI t 12 ≤ 8 → iI t 0 = iI t 74 → iI t 9 = iI t 90 → iI t 20 = iI t 98 → iI t 28 = iI t 97 → iI t 32 = iI t 99 → iI t 70 = iI t 107 → iI t 12 = iI t 83 → WS k 1866 [(0, .ref q1), (1, .ref (A 0)), (2, .ref (A 179)), (3, .ref (A 517)), (4, .int (Int32.ofInt i))] [] (Wd A dT t) (ce + 29) (sl + 222)) : WS k 1279 [(0, .ref q1), (1, .ref (A 0)), (2, .ref (A 179)), (3, .ref (A 517)), (4, .int (Int32.ofInt i))] [] (Wd A dT s) ce sl := by
  have F : Fm [73] [52, 1460, 398] s s := fm_rf _ _ s
  have b1 := bi_0 I
  have b2 := bi_74 I
  have b3 := bi_9 I
  have b4 := bi_90 I
  have b5 := bi_20 I
  have b6 := bi_98 I
  have b7 := bi_28 I
  have b8 := bi_97 I
  have b9 := bi_32 I
  have b10 := bi_99 I
  have b11 := bi_70 I
  have b12 := bi_107 I
  have b13 := bi_12 I
  have b14 := bi_83 I
  have b15 := bi_12 I
  have b16 := bi_89 I
  refine z_aload_n X (x := A 0) rfl (List.Mem.tail _ (List.Mem.head _)) (z_aload_n X (x := q1) rfl (List.Mem.head _) (z_load X (x := i) rfl (List.Mem.tail _ (List.Mem.tail _ (List.Mem.tail _ (List.Mem.tail _ (List.Mem.head _))))) (z_const X rfl (z_add X rfl (z_sld X S hL rfl (show 0 ≤ (i + 1) ∧ (i + 1) < (L : Int) by first | exact sx_in hi (by decide) | omega) ?_)))))
  have sr17 : rng (sc xs (i + 1)) := sc_rng
  refine z_aload_n X (x := q1) rfl (List.Mem.head _) (z_load X (x := i) rfl (List.Mem.tail _ (List.Mem.tail _ (List.Mem.tail _ (List.Mem.tail _ (List.Mem.head _))))) (z_const X rfl (z_add X rfl (z_sld X S hL rfl (show 0 ≤ (i + 2) ∧ (i + 2) < (L : Int) by first | exact sx_in hi (by decide) | omega) ?_))))
  have sr18 : rng (sc xs (i + 2)) := sc_rng
  refine z_aload_n X (x := A 517) rfl (List.Mem.tail _ (List.Mem.tail _ (List.Mem.tail _ (List.Mem.head _)))) (z_callL X (rm := rmN 339) (As := [.ref (A 0), .int (Int32.ofInt (sc xs (i + 1))), .int (Int32.ofInt (sc xs (i + 2))), .ref (A 517)]) (st := []) rfl (by decide) rfl (by rw [E.1, E.2.1, E.2.2.1]; exact lw_ill G I (by omega) (by omega)) ⟨by rw [E.2.2.2]; exact (show 8 + 1 ≤ 2048 by decide), by rw [E.2.2.2]; exact (show 8 + (5 + 11) + 146 ≤ 84000 by decide), by rw [E.2.2.2]; exact (show ce + 2 ≤ 601024 by first | exact rmo_1 hce (by decide) | exact rmo_2 hce (by decide) | omega), by rw [E.2.2.2]; exact (show sl + 12 ≤ 7293034 by first | exact rmo_1 hsl (by decide) | exact rmo_2 hsl (by decide) | omega)⟩ (Nat.le_of_ble_eq_true rfl) (fun vv A s19 hA2 hq => ?_) (fun ee A s19 hA2 hq => ?_))
  rotate_left
  · obtain ⟨Is19, Fs19, e20, hv, hrs19, hps19⟩ := hq; cases hv
  obtain ⟨Is19, Fs19, e20, hv, hrs19, hps19⟩ := hq
  cases hv
  rw [← hA2 0 (by decide)]
  rw [← hA2 179 (by decide)]
  rw [← hA2 517 (by decide)]
  have JRLx_s19 : RLx s19 := RLx_fm Fs19 (by decide) jR
  have JFEQ_s19 : FEQ s19 := FEQ_fm Fs19 (by decide) jFEQ
  have JREQ_s19 : REQ 39 234 28 s19 := REQ_fm Fs19 (by decide) jREQ
  have JSEQ_s19 : SEQ s19 := SEQ_fm Fs19 (by decide) jSEQ
  have JARJ_s19 : ARJ s19 := ARJ_fm Fs19 ⟨by decide +kernel, by decide +kernel, by decide +kernel, by decide +kernel, by decide +kernel, by decide +kernel, by decide +kernel, by decide +kernel⟩ jARJ
  have JPTJ_s19 : PTJ s19 := PTJ_fm Fs19 (by decide +kernel) jPTJ
  have ws19_0 : iI s19 0 = iI s 0 := fm_iq Fs19 rfl
  have ws19_74 : iI s19 74 = iI s 74 := fm_iq Fs19 rfl
  have ws19_9 : iI s19 9 = iI s 9 := fm_iq Fs19 rfl
  have ws19_90 : iI s19 90 = iI s 90 := fm_iq Fs19 rfl
  have ws19_20 : iI s19 20 = iI s 20 := fm_iq Fs19 rfl
  have ws19_98 : iI s19 98 = iI s 98 := fm_iq Fs19 rfl
  have ws19_28 : iI s19 28 = iI s 28 := fm_iq Fs19 rfl
  have ws19_97 : iI s19 97 = iI s 97 := fm_iq Fs19 rfl
  have ws19_32 : iI s19 32 = iI s 32 := fm_iq Fs19 rfl
  have ws19_99 : iI s19 99 = iI s 99 := fm_iq Fs19 rfl
  have ws19_70 : iI s19 70 = iI s 70 := fm_iq Fs19 rfl
  have ws19_107 : iI s19 107 = iI s 107 := fm_iq Fs19 rfl
  have ws19_12 : iI s19 12 = iI s 12 := fm_iq Fs19 rfl
  have ws19_83 : iI s19 83 = iI s 83 := fm_iq Fs19 rfl
  have ws19_12 : iI s19 12 = iI s 12 := fm_iq Fs19 rfl
  have ws19_89 : iI s19 89 = iI s 89 := fm_iq Fs19 rfl
  show WS k 1296 [(0, .ref q1), (1, .ref (A 0)), (2, .ref (A 179)), (3, .ref (A 517)), (4, .int (Int32.ofInt i))] [.int (Int32.ofInt e20)] (Wd A dT s19) (ce + 2) (sl + 12)
  refine z_store X (lv' := [(5, .int (Int32.ofInt e20)), (0, .ref q1), (1, .ref (A 0)), (2, .ref (A 179)), (3, .ref (A 517)), (4, .int (Int32.ofInt i))]) rfl (by decide) (fun _ h => h) (z_aload_n X (x := A 179) rfl (List.Mem.tail _ (List.Mem.tail _ (List.Mem.tail _ (List.Mem.head _)))) (z_aload_n X (x := q1) rfl (List.Mem.tail _ (List.Mem.head _)) (z_load X (x := i) rfl (List.Mem.tail _ (List.Mem.tail _ (List.Mem.tail _ (List.Mem.tail _ (List.Mem.tail _ (List.Mem.head _)))))) (z_const X rfl (z_add X rfl (z_sld X S hL rfl (show 0 ≤ (i + 1) ∧ (i + 1) < (L : Int) by first | exact sx_in hi (by decide) | omega) ?_))))))
  have sr21 : rng (sc xs (i + 1)) := sc_rng
  refine z_aload_n X (x := q1) rfl (List.Mem.tail _ (List.Mem.head _)) (z_load X (x := i) rfl (List.Mem.tail _ (List.Mem.tail _ (List.Mem.tail _ (List.Mem.tail _ (List.Mem.tail _ (List.Mem.head _)))))) (z_const X rfl (z_add X rfl (z_sld X S hL rfl (show 0 ≤ (i + 2) ∧ (i + 2) < (L : Int) by first | exact sx_in hi (by decide) | omega) ?_))))
  have sr22 : rng (sc xs (i + 2)) := sc_rng
  refine z_callV X 179 (rm := rmN 274) (As := [.int (Int32.ofInt (sc xs (i + 1))), .int (Int32.ofInt (sc xs (i + 2)))]) (st := []) rfl rfl (by decide) rfl (by rw [E.1, E.2.1, E.2.2.1]; exact k_ill G Is19 (by first | exact ⟨sr21.1, sr21.2⟩ | omega) (by first | exact ⟨sr22.1, sr22.2⟩ | omega)) ⟨by rw [E.2.2.2]; exact (show 7 + 1 ≤ 2048 from oq_4e6106eb), by rw [E.2.2.2]; exact (show 8 + (4 + 11) + 122 ≤ 84000 from oq_ebbf79c1), by rw [E.2.2.2]; exact (show (ce + 2) + 0 ≤ 601024 by omega), by rw [E.2.2.2]; exact (show (sl + 12) + 0 ≤ 7293034 by omega)⟩ (Nat.le_of_ble_eq_true rfl) (fun vv s23 hq => ?_) (fun ee s23 hq => ?_)
  rotate_left
  · obtain ⟨Is23, Fs23, e24, hv, hrs23, hps23⟩ := hq; cases hv
  obtain ⟨Is23, Fs23, e24, hv, hrs23, hps23⟩ := hq
  cases hv
  have JRLx_s23 : RLx s23 := RLx_fm Fs23 (by decide) JRLx_s19
  have JFEQ_s23 : FEQ s23 := FEQ_fm Fs23 (by decide) JFEQ_s19
  have JREQ_s23 : REQ 39 234 28 s23 := REQ_fm Fs23 (by decide) JREQ_s19
  have JSEQ_s23 : SEQ s23 := SEQ_fm Fs23 (by decide) JSEQ_s19
  have JARJ_s23 : ARJ s23 := ARJ_fm Fs23 ⟨by decide +kernel, by decide +kernel, by decide +kernel, by decide +kernel, by decide +kernel, by decide +kernel, by decide +kernel, by decide +kernel⟩ JARJ_s19
  have JPTJ_s23 : PTJ s23 := PTJ_fm Fs23 (by decide +kernel) JPTJ_s19
  have ws23_0 : iI s23 0 = iI s19 0 := fm_iq Fs23 rfl
  have ws23_74 : iI s23 74 = iI s19 74 := fm_iq Fs23 rfl
  have ws23_9 : iI s23 9 = iI s19 9 := fm_iq Fs23 rfl
  have ws23_90 : iI s23 90 = iI s19 90 := fm_iq Fs23 rfl
  have ws23_20 : iI s23 20 = iI s19 20 := fm_iq Fs23 rfl
  have ws23_98 : iI s23 98 = iI s19 98 := fm_iq Fs23 rfl
  have ws23_28 : iI s23 28 = iI s19 28 := fm_iq Fs23 rfl
  have ws23_97 : iI s23 97 = iI s19 97 := fm_iq Fs23 rfl
  have ws23_32 : iI s23 32 = iI s19 32 := fm_iq Fs23 rfl
  have ws23_99 : iI s23 99 = iI s19 99 := fm_iq Fs23 rfl
  have ws23_70 : iI s23 70 = iI s19 70 := fm_iq Fs23 rfl
  have ws23_107 : iI s23 107 = iI s19 107 := fm_iq Fs23 rfl
  have ws23_12 : iI s23 12 = iI s19 12 := fm_iq Fs23 rfl
  have ws23_83 : iI s23 83 = iI s19 83 := fm_iq Fs23 rfl
  have ws23_12 : iI s23 12 = iI s19 12 := fm_iq Fs23 rfl
  have ws23_89 : iI s23 89 = iI s19 89 := fm_iq Fs23 rfl
  have wos23 : iO s23 = iO s19 := fm_o Fs23 (by decide)
  show WS k 1314 [(5, .int (Int32.ofInt e20)), (0, .ref q1), (1, .ref (A 0)), (2, .ref (A 179)), (3, .ref (A 517)), (4, .int (Int32.ofInt i))] [.int (Int32.ofInt e24)] (Wd A dT s23) (ce + 2) (sl + 12)
  refine z_store X (lv' := [(6, .int (Int32.ofInt e24)), (5, .int (Int32.ofInt e20)), (0, .ref q1), (1, .ref (A 0)), (2, .ref (A 179)), (3, .ref (A 517)), (4, .int (Int32.ofInt i))]) rfl (by decide) (fun _ h => h) (z_goto X (t := 1866) rfl rfl (w_widen (ce' := ce + 29) (sl' := sl + 222) (by first | exact Nat.le_add_right _ _ | exact Nat.add_le_add_left (by decide) _ | omega) (by first | exact Nat.le_add_right _ _ | exact Nat.add_le_add_left (by decide) _ | omega) ?_))
  exact WS_lv (lv := [(0, .ref q1), (1, .ref (A 0)), (2, .ref (A 179)), (3, .ref (A 517)), (4, .int (Int32.ofInt i))]) (List.forall_mem_cons.mpr ⟨(List.Mem.tail _ (List.Mem.tail _ (List.Mem.head _))), (List.forall_mem_cons.mpr ⟨(List.Mem.tail _ (List.Mem.tail _ (List.Mem.tail _ (List.Mem.head _)))), (List.forall_mem_cons.mpr ⟨(List.Mem.tail _ (List.Mem.tail _ (List.Mem.tail _ (List.Mem.tail _ (List.Mem.head _))))), (List.forall_mem_cons.mpr ⟨(List.Mem.tail _ (List.Mem.tail _ (List.Mem.tail _ (List.Mem.tail _ (List.Mem.tail _ (List.Mem.head _)))))), (List.forall_mem_cons.mpr ⟨(List.Mem.tail _ (List.Mem.tail _ (List.Mem.tail _ (List.Mem.tail _ (List.Mem.tail _ (List.Mem.tail _ (List.Mem.head _))))))), (fun q h => absurd h List.not_mem_nil)⟩)⟩)⟩)⟩)⟩) (hk A _ Is23 JRLx_s23 JFEQ_s23 JREQ_s23 JSEQ_s23 JARJ_s23 JPTJ_s23 (by first | exact oq_f34933ba ws23_89 ws19_89 p1 b16.1 | omega) (by first | exact oq_d7ce4408 ws23_12 ws19_12 p2 | omega) (by first | exact oq_5bcdc35f ws23_74 ws23_0 ws19_74 ws19_0 p3 | omega) (by first | exact oq_5bcdc35f ws23_90 ws23_9 ws19_90 ws19_9 p4 | omega) (by first | exact oq_5bcdc35f ws23_98 ws23_20 ws19_98 ws19_20 p5 | omega) (by first | exact oq_5bcdc35f ws23_97 ws23_28 ws19_97 ws19_28 p6 | omega) (by first | exact oq_5bcdc35f ws23_99 ws23_32 ws19_99 ws19_32 p7 | omega) (by first | exact oq_5bcdc35f ws23_107 ws23_70 ws19_107 ws19_70 p8 | omega) (by first | exact oq_5bc06b03 ws23_83 ws23_12 ws19_83 p9 ws19_12 | omega))
theorem lc_31 (G : GX l s0 D tys a0 dT) (GR : RS0 s0) (SF : SF0 s0) (GT : TXs0 s0) (GW : TXw0 s0) {k : kx_T} (X : AX k 350 dT) (E : kL k = l ∧ kS0 k = s0 ∧ kD k = D ∧ kR k = room_1) {q1 L : Nat} {xs : Nat → Int32} (S : SX k q1 L xs) (hL : L ≤ 3072) (I : Bd s) (jR : RLx s) (jFEQ : FEQ s) (jREQ : REQ 39 234 28 s) (jSEQ : SEQ s) (jARJ : ARJ s) (jPTJ : PTJ s) (p1 : iI s 89 = 1) (p2 : iI s 12 ≤ 8) (p3 : iI s 0 = iI s 74) (p4 : iI s 9 = iI s 90) (p5 : iI s 20 = iI s 98) (p6 : iI s 28 = iI s 97) (p7 : iI s 32 = iI s 99) (p8 : iI s 70 = iI s 107) (p9 : iI s 12 = iI s 83) {i : Int} (hi : 0 ≤ i ∧ i + 6 ≤ (L : Int)) {ce sl : Nat} (hce : ce + 29 ≤ 601024) (hsl : sl + 222 ≤ 7293034) (hk : ∀ (A : Nat → Nat) (t : PS), Bd t → RLx t → FEQ t → REQ 39 234 28 t → SEQ t → ARJ t → PTJ t → iI t 89 = 1 → iI t 12 ≤ 8 → iI t 0 = iI t 74 → iI t 9 = iI t 90 → iI t 20 = iI t 98 → iI t 28 = iI t 97 → iI t 32 = iI t 99 → iI t 70 = iI t 107 → iI t 12 = iI t 83 → WS k 1866 [(0, .ref q1), (1, .ref (A 0)), (2, .ref (A 179)), (3, .ref (A 517)), (4, .int (Int32.ofInt i))] [] (Wd A dT t) (ce + 29) (sl + 222)) : WS k 1319 [(0, .ref q1), (1, .ref (A 0)), (2, .ref (A 179)), (3, .ref (A 517)), (4, .int (Int32.ofInt i))] [] (Wd A dT s) ce sl := by
  have F : Fm [22, 23, 24, 34, 35, 38, 73, 104, 77, 75, 78, 79, 80, 81, 89] [33, 26, 27, 28, 29, 30, 31, 32, 20, 48, 47, 49, 50, 51, 53, 54, 55, 56, 1460, 161, 230, 202, 204, 205, 206, 207, 208, 209, 210, 211, 212, 213, 214, 215, 216, 217, 218, 219, 220, 221, 222, 223, 224, 225, 226, 227, 203, 395, 396, 397, 245, 246, 247, 248, 249, 250, 251, 252, 253, 254, 255, 256, 257, 258, 259, 260, 261, 262, 263, 264, 265, 266, 267, 268, 269, 270, 271, 272, 273, 274, 275, 276, 277, 278, 279, 280, 281, 282, 283, 284, 285, 286, 287, 288, 289, 290, 291, 292, 293, 294, 295, 296, 297, 298, 299, 300, 301, 302, 303, 304, 305, 306, 307, 308, 309, 310, 311, 312, 313, 314, 315, 316, 317, 318, 319, 320, 321, 322, 323, 324, 325, 326, 327, 328, 329, 330, 331, 332, 333, 334, 335, 336, 337, 338, 339, 340, 341, 342, 343, 344, 345, 346, 347, 348, 349, 350, 351, 352, 353, 354, 355, 356, 357, 358, 359, 360, 361, 362, 363, 364, 365, 366, 367, 368, 369, 370, 371, 372, 373, 374, 375, 376, 377, 378, 379, 380, 381, 382, 383, 384, 385, 386, 387, 388, 389, 390, 391, 392, 393, 394] s s := fm_rf _ _ s
  have b1 := bi_0 I
  have b2 := bi_74 I
  have b3 := bi_9 I
  have b4 := bi_90 I
  have b5 := bi_20 I
  have b6 := bi_98 I
  have b7 := bi_28 I
  have b8 := bi_97 I
  have b9 := bi_32 I
  have b10 := bi_99 I
  have b11 := bi_70 I
  have b12 := bi_107 I
  have b13 := bi_12 I
  have b14 := bi_83 I
  have b15 := bi_12 I
  have b16 := bi_89 I
  refine z_aload_n X (x := A 0) rfl (List.Mem.tail _ (List.Mem.head _)) (z_aload_n X (x := q1) rfl (List.Mem.head _) (z_load X (x := i) rfl (List.Mem.tail _ (List.Mem.tail _ (List.Mem.tail _ (List.Mem.tail _ (List.Mem.head _))))) (z_const X rfl (z_add X rfl (z_sld X S hL rfl (show 0 ≤ (i + 1) ∧ (i + 1) < (L : Int) by first | exact sx_in hi (by decide) | omega) ?_)))))
  have sr17 : rng (sc xs (i + 1)) := sc_rng
  refine z_aload_n X (x := q1) rfl (List.Mem.head _) (z_load X (x := i) rfl (List.Mem.tail _ (List.Mem.tail _ (List.Mem.tail _ (List.Mem.tail _ (List.Mem.head _))))) (z_const X rfl (z_add X rfl (z_sld X S hL rfl (show 0 ≤ (i + 2) ∧ (i + 2) < (L : Int) by first | exact sx_in hi (by decide) | omega) ?_))))
  have sr18 : rng (sc xs (i + 2)) := sc_rng
  refine z_aload_n X (x := q1) rfl (List.Mem.head _) (z_load X (x := i) rfl (List.Mem.tail _ (List.Mem.tail _ (List.Mem.tail _ (List.Mem.tail _ (List.Mem.head _))))) (z_const X rfl (z_add X rfl (z_sld X S hL rfl (show 0 ≤ (i + 3) ∧ (i + 3) < (L : Int) by first | exact sx_in hi (by decide) | omega) ?_))))
  have sr19 : rng (sc xs (i + 3)) := sc_rng
  refine z_aload_n X (x := A 517) rfl (List.Mem.tail _ (List.Mem.tail _ (List.Mem.tail _ (List.Mem.head _)))) (z_callL X (rm := rmN 340) (As := [.ref (A 0), .int (Int32.ofInt (sc xs (i + 1))), .int (Int32.ofInt (sc xs (i + 2))), .int (Int32.ofInt (sc xs (i + 3))), .ref (A 517)]) (st := []) rfl (by decide) rfl (by rw [E.1, E.2.1, E.2.2.1]; exact lw_rota G I (by omega) (by omega) (by omega) (by omega)) ⟨by rw [E.2.2.2]; exact (show 13 + 1 ≤ 2048 by decide), by rw [E.2.2.2]; exact (show 8 + (6 + 11) + 274 ≤ 84000 by decide), by rw [E.2.2.2]; exact (show ce + 3 ≤ 601024 by first | exact rmo_1 hce (by decide) | exact rmo_2 hce (by decide) | omega), by rw [E.2.2.2]; exact (show sl + 18 ≤ 7293034 by first | exact rmo_1 hsl (by decide) | exact rmo_2 hsl (by decide) | omega)⟩ (Nat.le_of_ble_eq_true rfl) (fun vv A s20 hA2 hq => ?_) (fun ee A s20 hA2 hq => ?_))
  rotate_left
  · obtain ⟨Is20, Fs20, e21, hv, hrs20, hps20⟩ := hq; cases hv
  obtain ⟨Is20, Fs20, e21, hv, hrs20, hps20⟩ := hq
  cases hv
  rw [← hA2 0 (by decide)]
  rw [← hA2 179 (by decide)]
  rw [← hA2 517 (by decide)]
  have JRLx_s20 : RLx s20 := RLx_fm Fs20 (by decide) jR
  have JFEQ_s20 : FEQ s20 := FEQ_fm Fs20 (by decide) jFEQ
  have JREQ_s20 : REQ 39 234 28 s20 := REQ_fm Fs20 (by decide) jREQ
  have JSEQ_s20 : SEQ s20 := SEQ_fm Fs20 (by decide) jSEQ
  have JARJ_s20 : ARJ s20 := ARJ_fm Fs20 ⟨by decide +kernel, by decide +kernel, by decide +kernel, by decide +kernel, by decide +kernel, by decide +kernel, by decide +kernel, by decide +kernel⟩ jARJ
  have JPTJ_s20 : PTJ s20 := PTJ_fm Fs20 (by decide +kernel) jPTJ
  have ws20_0 : iI s20 0 = iI s 0 := fm_iq Fs20 rfl
  have ws20_74 : iI s20 74 = iI s 74 := fm_iq Fs20 rfl
  have ws20_9 : iI s20 9 = iI s 9 := fm_iq Fs20 rfl
  have ws20_90 : iI s20 90 = iI s 90 := fm_iq Fs20 rfl
  have ws20_20 : iI s20 20 = iI s 20 := fm_iq Fs20 rfl
  have ws20_98 : iI s20 98 = iI s 98 := fm_iq Fs20 rfl
  have ws20_28 : iI s20 28 = iI s 28 := fm_iq Fs20 rfl
  have ws20_97 : iI s20 97 = iI s 97 := fm_iq Fs20 rfl
  have ws20_32 : iI s20 32 = iI s 32 := fm_iq Fs20 rfl
  have ws20_99 : iI s20 99 = iI s 99 := fm_iq Fs20 rfl
  have ws20_70 : iI s20 70 = iI s 70 := fm_iq Fs20 rfl
  have ws20_107 : iI s20 107 = iI s 107 := fm_iq Fs20 rfl
  have ws20_12 : iI s20 12 = iI s 12 := fm_iq Fs20 rfl
  have ws20_83 : iI s20 83 = iI s 83 := fm_iq Fs20 rfl
  have ws20_12 : iI s20 12 = iI s 12 := fm_iq Fs20 rfl
  have ws20_89 : iI s20 89 = iI s 89 := fm_iq Fs20 rfl
  show WS k 1342 [(0, .ref q1), (1, .ref (A 0)), (2, .ref (A 179)), (3, .ref (A 517)), (4, .int (Int32.ofInt i))] [.int (Int32.ofInt e21)] (Wd A dT s20) (ce + 3) (sl + 18)
  refine z_store X (lv' := [(5, .int (Int32.ofInt e21)), (0, .ref q1), (1, .ref (A 0)), (2, .ref (A 179)), (3, .ref (A 517)), (4, .int (Int32.ofInt i))]) rfl (by decide) (fun _ h => h) (z_aload_n X (x := A 179) rfl (List.Mem.tail _ (List.Mem.tail _ (List.Mem.tail _ (List.Mem.head _)))) (z_aload_n X (x := q1) rfl (List.Mem.tail _ (List.Mem.head _)) (z_load X (x := i) rfl (List.Mem.tail _ (List.Mem.tail _ (List.Mem.tail _ (List.Mem.tail _ (List.Mem.tail _ (List.Mem.head _)))))) (z_const X rfl (z_add X rfl (z_sld X S hL rfl (show 0 ≤ (i + 1) ∧ (i + 1) < (L : Int) by first | exact sx_in hi (by decide) | omega) ?_))))))
  have sr22 : rng (sc xs (i + 1)) := sc_rng
  refine z_aload_n X (x := q1) rfl (List.Mem.tail _ (List.Mem.head _)) (z_load X (x := i) rfl (List.Mem.tail _ (List.Mem.tail _ (List.Mem.tail _ (List.Mem.tail _ (List.Mem.tail _ (List.Mem.head _)))))) (z_const X rfl (z_add X rfl (z_sld X S hL rfl (show 0 ≤ (i + 2) ∧ (i + 2) < (L : Int) by first | exact sx_in hi (by decide) | omega) ?_))))
  have sr23 : rng (sc xs (i + 2)) := sc_rng
  refine z_aload_n X (x := q1) rfl (List.Mem.tail _ (List.Mem.head _)) (z_load X (x := i) rfl (List.Mem.tail _ (List.Mem.tail _ (List.Mem.tail _ (List.Mem.tail _ (List.Mem.tail _ (List.Mem.head _)))))) (z_const X rfl (z_add X rfl (z_sld X S hL rfl (show 0 ≤ (i + 3) ∧ (i + 3) < (L : Int) by first | exact sx_in hi (by decide) | omega) ?_))))
  have sr24 : rng (sc xs (i + 3)) := sc_rng
  refine z_callV X 179 (rm := rmN 276) (As := [.int (Int32.ofInt (sc xs (i + 1))), .int (Int32.ofInt (sc xs (i + 2))), .int (Int32.ofInt (sc xs (i + 3)))]) (st := []) rfl rfl (by decide) rfl (by rw [E.1, E.2.1, E.2.2.1]; exact k_rota G Is20 JRLx_s20 (by first | exact ⟨sr22.1, sr22.2⟩ | omega) (by first | exact ⟨sr23.1, sr23.2⟩ | omega) (by first | exact ⟨sr24.1, sr24.2⟩ | omega) (by first | exact oq_b44a1c7f ws20_89 p1 b16.1 | omega)) ⟨by rw [E.2.2.2]; exact (show 64 + 1 ≤ 2048 from oq_5cbe2cb6), by rw [E.2.2.2]; exact (show 8 + (4 + 11) + 2742 ≤ 84000 from oq_31d93303), by rw [E.2.2.2]; exact (show (ce + 3) + 3 ≤ 601024 by omega), by rw [E.2.2.2]; exact (show (sl + 18) + 24 ≤ 7293034 by omega)⟩ (Nat.le_of_ble_eq_true rfl) (fun vv s25 hq => ?_) (fun ee s25 hq => ?_)
  rotate_left
  · obtain ⟨Is25, Fs25, JRLx_s25, e26, hv, hrs25, hps25⟩ := hq; cases hv
  obtain ⟨Is25, Fs25, JRLx_s25, e26, hv, hrs25, hps25⟩ := hq
  cases hv
  have JRLx_s25 : RLx s25 := RLx_fm Fs25 (by decide) JRLx_s20
  have JFEQ_s25 : FEQ s25 := FEQ_fm Fs25 (by decide) JFEQ_s20
  have JREQ_s25 : REQ 39 234 28 s25 := REQ_fm Fs25 (by decide) JREQ_s20
  have JSEQ_s25 : SEQ s25 := SEQ_fm Fs25 (by decide) JSEQ_s20
  have JARJ_s25 : ARJ s25 := ARJ_fm Fs25 ⟨by decide +kernel, by decide +kernel, by decide +kernel, by decide +kernel, by decide +kernel, by decide +kernel, by decide +kernel, by decide +kernel⟩ JARJ_s20
  have JPTJ_s25 : PTJ s25 := PTJ_fm Fs25 (by decide +kernel) JPTJ_s20
  have ws25_0 : iI s25 0 = iI s20 0 := fm_iq Fs25 rfl
  have ws25_74 : iI s25 74 = iI s20 74 := fm_iq Fs25 rfl
  have ws25_9 : iI s25 9 = iI s20 9 := fm_iq Fs25 rfl
  have ws25_90 : iI s25 90 = iI s20 90 := fm_iq Fs25 rfl
  have ws25_20 : iI s25 20 = iI s20 20 := fm_iq Fs25 rfl
  have ws25_98 : iI s25 98 = iI s20 98 := fm_iq Fs25 rfl
  have ws25_28 : iI s25 28 = iI s20 28 := fm_iq Fs25 rfl
  have ws25_97 : iI s25 97 = iI s20 97 := fm_iq Fs25 rfl
  have ws25_32 : iI s25 32 = iI s20 32 := fm_iq Fs25 rfl
  have ws25_99 : iI s25 99 = iI s20 99 := fm_iq Fs25 rfl
  have ws25_70 : iI s25 70 = iI s20 70 := fm_iq Fs25 rfl
  have ws25_107 : iI s25 107 = iI s20 107 := fm_iq Fs25 rfl
  have ws25_12 : iI s25 12 = iI s20 12 := fm_iq Fs25 rfl
  have ws25_83 : iI s25 83 = iI s20 83 := fm_iq Fs25 rfl
  have ws25_12 : iI s25 12 = iI s20 12 := fm_iq Fs25 rfl
  have b27 := bi_89 Is25
  have wos25 : iO s25 = iO s20 := fm_o Fs25 (by decide)
  show WS k 1366 [(5, .int (Int32.ofInt e21)), (0, .ref q1), (1, .ref (A 0)), (2, .ref (A 179)), (3, .ref (A 517)), (4, .int (Int32.ofInt i))] [.int (Int32.ofInt e26)] (Wd A dT s25) ((ce + 3) + 3) ((sl + 18) + 24)
  refine z_store X (lv' := [(6, .int (Int32.ofInt e26)), (5, .int (Int32.ofInt e21)), (0, .ref q1), (1, .ref (A 0)), (2, .ref (A 179)), (3, .ref (A 517)), (4, .int (Int32.ofInt i))]) rfl (by decide) (fun _ h => h) (z_goto X (t := 1866) rfl rfl (w_widen (ce' := ce + 29) (sl' := sl + 222) (by first | exact Nat.le_add_right _ _ | exact Nat.add_le_add_left (by decide) _ | omega) (by first | exact Nat.le_add_right _ _ | exact Nat.add_le_add_left (by decide) _ | omega) ?_))
  exact WS_lv (lv := [(0, .ref q1), (1, .ref (A 0)), (2, .ref (A 179)), (3, .ref (A 517)), (4, .int (Int32.ofInt i))]) (List.forall_mem_cons.mpr ⟨(List.Mem.tail _ (List.Mem.tail _ (List.Mem.head _))), (List.forall_mem_cons.mpr ⟨(List.Mem.tail _ (List.Mem.tail _ (List.Mem.tail _ (List.Mem.head _)))), (List.forall_mem_cons.mpr ⟨(List.Mem.tail _ (List.Mem.tail _ (List.Mem.tail _ (List.Mem.tail _ (List.Mem.head _))))), (List.forall_mem_cons.mpr ⟨(List.Mem.tail _ (List.Mem.tail _ (List.Mem.tail _ (List.Mem.tail _ (List.Mem.tail _ (List.Mem.head _)))))), (List.forall_mem_cons.mpr ⟨(List.Mem.tail _ (List.Mem.tail _ (List.Mem.tail _ (List.Mem.tail _ (List.Mem.tail _ (List.Mem.tail _ (List.Mem.head _))))))), (fun q h => absurd h List.not_mem_nil)⟩)⟩)⟩)⟩)⟩) (hk A _ Is25 JRLx_s25 JFEQ_s25 JREQ_s25 JSEQ_s25 JARJ_s25 JPTJ_s25 (by first | exact hps25 | omega) (by first | exact oq_d7ce4408 ws25_12 ws20_12 p2 | omega) (by first | exact oq_5bcdc35f ws25_74 ws25_0 ws20_74 ws20_0 p3 | omega) (by first | exact oq_5bcdc35f ws25_90 ws25_9 ws20_90 ws20_9 p4 | omega) (by first | exact oq_5bcdc35f ws25_98 ws25_20 ws20_98 ws20_20 p5 | omega) (by first | exact oq_5bcdc35f ws25_97 ws25_28 ws20_97 ws20_28 p6 | omega) (by first | exact oq_5bcdc35f ws25_99 ws25_32 ws20_99 ws20_32 p7 | omega) (by first | exact oq_5bcdc35f ws25_107 ws25_70 ws20_107 ws20_70 p8 | omega) (by first | exact oq_5bc06b03 ws25_83 ws25_12 ws20_83 p9 ws20_12 | omega))
theorem lc_32 (G : GX l s0 D tys a0 dT) (GR : RS0 s0) (SF : SF0 s0) (GT : TXs0 s0) (GW : TXw0 s0) {k : kx_T} (X : AX k 350 dT) (E : kL k = l ∧ kS0 k = s0 ∧ kD k = D ∧ kR k = room_1) {q1 L : Nat} {xs : Nat → Int32} (S : SX k q1 L xs) (hL : L ≤ 3072) (I : Bd s) (jR : RLx s) (jFEQ : FEQ s) (jREQ : REQ 39 234 28 s) (jSEQ : SEQ s) (jARJ : ARJ s) (jPTJ : PTJ s) (p1 : iI s 89 = 1) (p2 : iI s 12 ≤ 8) (p3 : iI s 0 = iI s 74) (p4 : iI s 9 = iI s 90) (p5 : iI s 20 = iI s 98) (p6 : iI s 28 = iI s 97) (p7 : iI s 32 = iI s 99) (p8 : iI s 70 = iI s 107) (p9 : iI s 12 = iI s 83) {i : Int} (hi : 0 ≤ i ∧ i + 6 ≤ (L : Int)) {ce sl : Nat} (hce : ce + 29 ≤ 601024) (hsl : sl + 222 ≤ 7293034) (hk : ∀ (A : Nat → Nat) (t : PS), Bd t → RLx t → FEQ t → REQ 39 234 28 t → SEQ t → ARJ t → PTJ t → iI t 89 = 1 → iI t 12 ≤ 8 → iI t 0 = iI t 74 → iI t 9 = iI t 90 → iI t 20 = iI t 98 → iI t 28 = iI t 97 → iI t 32 = iI t 99 → iI t 70 = iI t 107 → iI t 12 = iI t 83 → WS k 1866 [(0, .ref q1), (1, .ref (A 0)), (2, .ref (A 179)), (3, .ref (A 517)), (4, .int (Int32.ofInt i))] [] (Wd A dT t) (ce + 29) (sl + 222)) : WS k 1371 [(0, .ref q1), (1, .ref (A 0)), (2, .ref (A 179)), (3, .ref (A 517)), (4, .int (Int32.ofInt i))] [] (Wd A dT s) ce sl := by
  have F : Fm [22, 23, 24, 34, 35, 38, 73, 104, 77, 75, 78, 79, 80, 81, 89] [33, 26, 27, 28, 29, 30, 31, 32, 20, 48, 47, 49, 50, 51, 53, 54, 55, 56, 1460, 161, 230, 202, 204, 205, 206, 207, 208, 209, 210, 211, 212, 213, 214, 215, 216, 217, 218, 219, 220, 221, 222, 223, 224, 225, 226, 227, 203, 395, 396, 397, 245, 246, 247, 248, 249, 250, 251, 252, 253, 254, 255, 256, 257, 258, 259, 260, 261, 262, 263, 264, 265, 266, 267, 268, 269, 270, 271, 272, 273, 274, 275, 276, 277, 278, 279, 280, 281, 282, 283, 284, 285, 286, 287, 288, 289, 290, 291, 292, 293, 294, 295, 296, 297, 298, 299, 300, 301, 302, 303, 304, 305, 306, 307, 308, 309, 310, 311, 312, 313, 314, 315, 316, 317, 318, 319, 320, 321, 322, 323, 324, 325, 326, 327, 328, 329, 330, 331, 332, 333, 334, 335, 336, 337, 338, 339, 340, 341, 342, 343, 344, 345, 346, 347, 348, 349, 350, 351, 352, 353, 354, 355, 356, 357, 358, 359, 360, 361, 362, 363, 364, 365, 366, 367, 368, 369, 370, 371, 372, 373, 374, 375, 376, 377, 378, 379, 380, 381, 382, 383, 384, 385, 386, 387, 388, 389, 390, 391, 392, 393, 394] s s := fm_rf _ _ s
  have b1 := bi_0 I
  have b2 := bi_74 I
  have b3 := bi_9 I
  have b4 := bi_90 I
  have b5 := bi_20 I
  have b6 := bi_98 I
  have b7 := bi_28 I
  have b8 := bi_97 I
  have b9 := bi_32 I
  have b10 := bi_99 I
  have b11 := bi_70 I
  have b12 := bi_107 I
  have b13 := bi_12 I
  have b14 := bi_83 I
  have b15 := bi_12 I
  have b16 := bi_89 I
  refine z_aload_n X (x := A 0) rfl (List.Mem.tail _ (List.Mem.head _)) (z_aload_n X (x := q1) rfl (List.Mem.head _) (z_load X (x := i) rfl (List.Mem.tail _ (List.Mem.tail _ (List.Mem.tail _ (List.Mem.tail _ (List.Mem.head _))))) (z_const X rfl (z_add X rfl (z_sld X S hL rfl (show 0 ≤ (i + 1) ∧ (i + 1) < (L : Int) by first | exact sx_in hi (by decide) | omega) ?_)))))
  have sr17 : rng (sc xs (i + 1)) := sc_rng
  refine z_aload_n X (x := q1) rfl (List.Mem.head _) (z_load X (x := i) rfl (List.Mem.tail _ (List.Mem.tail _ (List.Mem.tail _ (List.Mem.tail _ (List.Mem.head _))))) (z_const X rfl (z_add X rfl (z_sld X S hL rfl (show 0 ≤ (i + 2) ∧ (i + 2) < (L : Int) by first | exact sx_in hi (by decide) | omega) ?_))))
  have sr18 : rng (sc xs (i + 2)) := sc_rng
  refine z_aload_n X (x := A 517) rfl (List.Mem.tail _ (List.Mem.tail _ (List.Mem.tail _ (List.Mem.head _)))) (z_callL X (rm := rmN 341) (As := [.ref (A 0), .int (Int32.ofInt (sc xs (i + 1))), .int (Int32.ofInt (sc xs (i + 2))), .ref (A 517)]) (st := []) rfl (by decide) rfl (by rw [E.1, E.2.1, E.2.2.1]; exact lw_lacks G I (by omega) (by omega) (by omega)) ⟨by rw [E.2.2.2]; exact (show 13 + 1 ≤ 2048 by decide), by rw [E.2.2.2]; exact (show 8 + (5 + 11) + 273 ≤ 84000 by decide), by rw [E.2.2.2]; exact (show ce + 2 ≤ 601024 by first | exact rmo_1 hce (by decide) | exact rmo_2 hce (by decide) | omega), by rw [E.2.2.2]; exact (show sl + 12 ≤ 7293034 by first | exact rmo_1 hsl (by decide) | exact rmo_2 hsl (by decide) | omega)⟩ (Nat.le_of_ble_eq_true rfl) (fun vv A s19 hA2 hq => ?_) (fun ee A s19 hA2 hq => ?_))
  rotate_left
  · obtain ⟨Is19, Fs19, e20, hv, hrs19, hps19⟩ := hq; cases hv
  obtain ⟨Is19, Fs19, e20, hv, hrs19, hps19⟩ := hq
  cases hv
  rw [← hA2 0 (by decide)]
  rw [← hA2 179 (by decide)]
  rw [← hA2 517 (by decide)]
  have JRLx_s19 : RLx s19 := RLx_fm Fs19 (by decide) jR
  have JFEQ_s19 : FEQ s19 := FEQ_fm Fs19 (by decide) jFEQ
  have JREQ_s19 : REQ 39 234 28 s19 := REQ_fm Fs19 (by decide) jREQ
  have JSEQ_s19 : SEQ s19 := SEQ_fm Fs19 (by decide) jSEQ
  have JARJ_s19 : ARJ s19 := ARJ_fm Fs19 ⟨by decide +kernel, by decide +kernel, by decide +kernel, by decide +kernel, by decide +kernel, by decide +kernel, by decide +kernel, by decide +kernel⟩ jARJ
  have JPTJ_s19 : PTJ s19 := PTJ_fm Fs19 (by decide +kernel) jPTJ
  have ws19_0 : iI s19 0 = iI s 0 := fm_iq Fs19 rfl
  have ws19_74 : iI s19 74 = iI s 74 := fm_iq Fs19 rfl
  have ws19_9 : iI s19 9 = iI s 9 := fm_iq Fs19 rfl
  have ws19_90 : iI s19 90 = iI s 90 := fm_iq Fs19 rfl
  have ws19_20 : iI s19 20 = iI s 20 := fm_iq Fs19 rfl
  have ws19_98 : iI s19 98 = iI s 98 := fm_iq Fs19 rfl
  have ws19_28 : iI s19 28 = iI s 28 := fm_iq Fs19 rfl
  have ws19_97 : iI s19 97 = iI s 97 := fm_iq Fs19 rfl
  have ws19_32 : iI s19 32 = iI s 32 := fm_iq Fs19 rfl
  have ws19_99 : iI s19 99 = iI s 99 := fm_iq Fs19 rfl
  have ws19_70 : iI s19 70 = iI s 70 := fm_iq Fs19 rfl
  have ws19_107 : iI s19 107 = iI s 107 := fm_iq Fs19 rfl
  have ws19_12 : iI s19 12 = iI s 12 := fm_iq Fs19 rfl
  have ws19_83 : iI s19 83 = iI s 83 := fm_iq Fs19 rfl
  have ws19_12 : iI s19 12 = iI s 12 := fm_iq Fs19 rfl
  have ws19_89 : iI s19 89 = iI s 89 := fm_iq Fs19 rfl
  show WS k 1388 [(0, .ref q1), (1, .ref (A 0)), (2, .ref (A 179)), (3, .ref (A 517)), (4, .int (Int32.ofInt i))] [.int (Int32.ofInt e20)] (Wd A dT s19) (ce + 2) (sl + 12)
  refine z_store X (lv' := [(5, .int (Int32.ofInt e20)), (0, .ref q1), (1, .ref (A 0)), (2, .ref (A 179)), (3, .ref (A 517)), (4, .int (Int32.ofInt i))]) rfl (by decide) (fun _ h => h) (z_aload_n X (x := A 179) rfl (List.Mem.tail _ (List.Mem.tail _ (List.Mem.tail _ (List.Mem.head _)))) (z_aload_n X (x := q1) rfl (List.Mem.tail _ (List.Mem.head _)) (z_load X (x := i) rfl (List.Mem.tail _ (List.Mem.tail _ (List.Mem.tail _ (List.Mem.tail _ (List.Mem.tail _ (List.Mem.head _)))))) (z_const X rfl (z_add X rfl (z_sld X S hL rfl (show 0 ≤ (i + 1) ∧ (i + 1) < (L : Int) by first | exact sx_in hi (by decide) | omega) ?_))))))
  have sr21 : rng (sc xs (i + 1)) := sc_rng
  refine z_aload_n X (x := q1) rfl (List.Mem.tail _ (List.Mem.head _)) (z_load X (x := i) rfl (List.Mem.tail _ (List.Mem.tail _ (List.Mem.tail _ (List.Mem.tail _ (List.Mem.tail _ (List.Mem.head _)))))) (z_const X rfl (z_add X rfl (z_sld X S hL rfl (show 0 ≤ (i + 2) ∧ (i + 2) < (L : Int) by first | exact sx_in hi (by decide) | omega) ?_))))
  have sr22 : rng (sc xs (i + 2)) := sc_rng
  refine z_callV X 179 (rm := rmN 277) (As := [.int (Int32.ofInt (sc xs (i + 1))), .int (Int32.ofInt (sc xs (i + 2)))]) (st := []) rfl rfl (by decide) rfl (by rw [E.1, E.2.1, E.2.2.1]; exact k_lacks G Is19 JRLx_s19 (by first | exact ⟨sr21.1, sr21.2⟩ | omega) (by first | exact ⟨sr22.1, sr22.2⟩ | omega) (by first | exact oq_b44a1c7f ws19_89 p1 b16.1 | omega)) ⟨by rw [E.2.2.2]; exact (show 64 + 1 ≤ 2048 from oq_5cbe2cb6), by rw [E.2.2.2]; exact (show 8 + (3 + 11) + 2742 ≤ 84000 from oq_151ba25b), by rw [E.2.2.2]; exact (show (ce + 2) + 3 ≤ 601024 by omega), by rw [E.2.2.2]; exact (show (sl + 12) + 24 ≤ 7293034 by omega)⟩ (Nat.le_of_ble_eq_true rfl) (fun vv s23 hq => ?_) (fun ee s23 hq => ?_)
  rotate_left
  · obtain ⟨Is23, Fs23, JRLx_s23, e24, hv, hrs23, hps23⟩ := hq; cases hv
  obtain ⟨Is23, Fs23, JRLx_s23, e24, hv, hrs23, hps23⟩ := hq
  cases hv
  have JRLx_s23 : RLx s23 := RLx_fm Fs23 (by decide) JRLx_s19
  have JFEQ_s23 : FEQ s23 := FEQ_fm Fs23 (by decide) JFEQ_s19
  have JREQ_s23 : REQ 39 234 28 s23 := REQ_fm Fs23 (by decide) JREQ_s19
  have JSEQ_s23 : SEQ s23 := SEQ_fm Fs23 (by decide) JSEQ_s19
  have JARJ_s23 : ARJ s23 := ARJ_fm Fs23 ⟨by decide +kernel, by decide +kernel, by decide +kernel, by decide +kernel, by decide +kernel, by decide +kernel, by decide +kernel, by decide +kernel⟩ JARJ_s19
  have JPTJ_s23 : PTJ s23 := PTJ_fm Fs23 (by decide +kernel) JPTJ_s19
  have ws23_0 : iI s23 0 = iI s19 0 := fm_iq Fs23 rfl
  have ws23_74 : iI s23 74 = iI s19 74 := fm_iq Fs23 rfl
  have ws23_9 : iI s23 9 = iI s19 9 := fm_iq Fs23 rfl
  have ws23_90 : iI s23 90 = iI s19 90 := fm_iq Fs23 rfl
  have ws23_20 : iI s23 20 = iI s19 20 := fm_iq Fs23 rfl
  have ws23_98 : iI s23 98 = iI s19 98 := fm_iq Fs23 rfl
  have ws23_28 : iI s23 28 = iI s19 28 := fm_iq Fs23 rfl
  have ws23_97 : iI s23 97 = iI s19 97 := fm_iq Fs23 rfl
  have ws23_32 : iI s23 32 = iI s19 32 := fm_iq Fs23 rfl
  have ws23_99 : iI s23 99 = iI s19 99 := fm_iq Fs23 rfl
  have ws23_70 : iI s23 70 = iI s19 70 := fm_iq Fs23 rfl
  have ws23_107 : iI s23 107 = iI s19 107 := fm_iq Fs23 rfl
  have ws23_12 : iI s23 12 = iI s19 12 := fm_iq Fs23 rfl
  have ws23_83 : iI s23 83 = iI s19 83 := fm_iq Fs23 rfl
  have ws23_12 : iI s23 12 = iI s19 12 := fm_iq Fs23 rfl
  have b25 := bi_89 Is23
  have wos23 : iO s23 = iO s19 := fm_o Fs23 (by decide)
  show WS k 1406 [(5, .int (Int32.ofInt e20)), (0, .ref q1), (1, .ref (A 0)), (2, .ref (A 179)), (3, .ref (A 517)), (4, .int (Int32.ofInt i))] [.int (Int32.ofInt e24)] (Wd A dT s23) ((ce + 2) + 3) ((sl + 12) + 24)
  refine z_store X (lv' := [(6, .int (Int32.ofInt e24)), (5, .int (Int32.ofInt e20)), (0, .ref q1), (1, .ref (A 0)), (2, .ref (A 179)), (3, .ref (A 517)), (4, .int (Int32.ofInt i))]) rfl (by decide) (fun _ h => h) (z_goto X (t := 1866) rfl rfl (w_widen (ce' := ce + 29) (sl' := sl + 222) (by first | exact Nat.le_add_right _ _ | exact Nat.add_le_add_left (by decide) _ | omega) (by first | exact Nat.le_add_right _ _ | exact Nat.add_le_add_left (by decide) _ | omega) ?_))
  exact WS_lv (lv := [(0, .ref q1), (1, .ref (A 0)), (2, .ref (A 179)), (3, .ref (A 517)), (4, .int (Int32.ofInt i))]) (List.forall_mem_cons.mpr ⟨(List.Mem.tail _ (List.Mem.tail _ (List.Mem.head _))), (List.forall_mem_cons.mpr ⟨(List.Mem.tail _ (List.Mem.tail _ (List.Mem.tail _ (List.Mem.head _)))), (List.forall_mem_cons.mpr ⟨(List.Mem.tail _ (List.Mem.tail _ (List.Mem.tail _ (List.Mem.tail _ (List.Mem.head _))))), (List.forall_mem_cons.mpr ⟨(List.Mem.tail _ (List.Mem.tail _ (List.Mem.tail _ (List.Mem.tail _ (List.Mem.tail _ (List.Mem.head _)))))), (List.forall_mem_cons.mpr ⟨(List.Mem.tail _ (List.Mem.tail _ (List.Mem.tail _ (List.Mem.tail _ (List.Mem.tail _ (List.Mem.tail _ (List.Mem.head _))))))), (fun q h => absurd h List.not_mem_nil)⟩)⟩)⟩)⟩)⟩) (hk A _ Is23 JRLx_s23 JFEQ_s23 JREQ_s23 JSEQ_s23 JARJ_s23 JPTJ_s23 (by first | exact hps23 | omega) (by first | exact oq_d7ce4408 ws23_12 ws19_12 p2 | omega) (by first | exact oq_5bcdc35f ws23_74 ws23_0 ws19_74 ws19_0 p3 | omega) (by first | exact oq_5bcdc35f ws23_90 ws23_9 ws19_90 ws19_9 p4 | omega) (by first | exact oq_5bcdc35f ws23_98 ws23_20 ws19_98 ws19_20 p5 | omega) (by first | exact oq_5bcdc35f ws23_97 ws23_28 ws19_97 ws19_28 p6 | omega) (by first | exact oq_5bcdc35f ws23_99 ws23_32 ws19_99 ws19_32 p7 | omega) (by first | exact oq_5bcdc35f ws23_107 ws23_70 ws19_107 ws19_70 p8 | omega) (by first | exact oq_5bc06b03 ws23_83 ws23_12 ws19_83 p9 ws19_12 | omega))
theorem lc_33 (G : GX l s0 D tys a0 dT) (GR : RS0 s0) (SF : SF0 s0) (GT : TXs0 s0) (GW : TXw0 s0) {k : kx_T} (X : AX k 350 dT) (E : kL k = l ∧ kS0 k = s0 ∧ kD k = D ∧ kR k = room_1) {q1 L : Nat} {xs : Nat → Int32} (S : SX k q1 L xs) (hL : L ≤ 3072) (I : Bd s) (jR : RLx s) (jFEQ : FEQ s) (jREQ : REQ 39 234 28 s) (jSEQ : SEQ s) (jARJ : ARJ s) (jPTJ : PTJ s) (p1 : iI s 89 = 1) (p2 : iI s 12 ≤ 8) (p3 : iI s 0 = iI s 74) (p4 : iI s 9 = iI s 90) (p5 : iI s 20 = iI s 98) (p6 : iI s 28 = iI s 97) (p7 : iI s 32 = iI s 99) (p8 : iI s 70 = iI s 107) (p9 : iI s 12 = iI s 83) {i : Int} (hi : 0 ≤ i ∧ i + 6 ≤ (L : Int)) {ce sl : Nat} (hce : ce + 29 ≤ 601024) (hsl : sl + 222 ≤ 7293034) (hk : ∀ (A : Nat → Nat) (t : PS), Bd t → RLx t → FEQ t → REQ 39 234 28 t → SEQ t → ARJ t → PTJ t → iI t 89 = 1 → iI t 12 ≤ 8 → iI t 0 = iI t 74 → iI t 9 = iI t 90 → iI t 20 = iI t 98 → iI t 28 = iI t 97 → iI t 32 = iI t 99 → iI t 70 = iI t 107 → iI t 12 = iI t 83 → WS k 1866 [(0, .ref q1), (1, .ref (A 0)), (2, .ref (A 179)), (3, .ref (A 517)), (4, .int (Int32.ofInt i))] [] (Wd A dT t) (ce + 29) (sl + 222)) : WS k 1411 [(0, .ref q1), (1, .ref (A 0)), (2, .ref (A 179)), (3, .ref (A 517)), (4, .int (Int32.ofInt i))] [] (Wd A dT s) ce sl := by
  have F : Fm [22, 23, 24, 34, 35, 38, 73, 104, 77, 75, 78, 79, 80, 81, 89] [33, 26, 27, 28, 29, 30, 31, 32, 20, 48, 47, 49, 50, 51, 53, 54, 55, 56, 1460, 161, 230, 202, 204, 205, 206, 207, 208, 209, 210, 211, 212, 213, 214, 215, 216, 217, 218, 219, 220, 221, 222, 223, 224, 225, 226, 227, 203, 395, 396, 397, 245, 246, 247, 248, 249, 250, 251, 252, 253, 254, 255, 256, 257, 258, 259, 260, 261, 262, 263, 264, 265, 266, 267, 268, 269, 270, 271, 272, 273, 274, 275, 276, 277, 278, 279, 280, 281, 282, 283, 284, 285, 286, 287, 288, 289, 290, 291, 292, 293, 294, 295, 296, 297, 298, 299, 300, 301, 302, 303, 304, 305, 306, 307, 308, 309, 310, 311, 312, 313, 314, 315, 316, 317, 318, 319, 320, 321, 322, 323, 324, 325, 326, 327, 328, 329, 330, 331, 332, 333, 334, 335, 336, 337, 338, 339, 340, 341, 342, 343, 344, 345, 346, 347, 348, 349, 350, 351, 352, 353, 354, 355, 356, 357, 358, 359, 360, 361, 362, 363, 364, 365, 366, 367, 368, 369, 370, 371, 372, 373, 374, 375, 376, 377, 378, 379, 380, 381, 382, 383, 384, 385, 386, 387, 388, 389, 390, 391, 392, 393, 394] s s := fm_rf _ _ s
  have b1 := bi_0 I
  have b2 := bi_74 I
  have b3 := bi_9 I
  have b4 := bi_90 I
  have b5 := bi_20 I
  have b6 := bi_98 I
  have b7 := bi_28 I
  have b8 := bi_97 I
  have b9 := bi_32 I
  have b10 := bi_99 I
  have b11 := bi_70 I
  have b12 := bi_107 I
  have b13 := bi_12 I
  have b14 := bi_83 I
  have b15 := bi_12 I
  have b16 := bi_89 I
  refine z_aload_n X (x := A 0) rfl (List.Mem.tail _ (List.Mem.head _)) (z_aload_n X (x := q1) rfl (List.Mem.head _) (z_load X (x := i) rfl (List.Mem.tail _ (List.Mem.tail _ (List.Mem.tail _ (List.Mem.tail _ (List.Mem.head _))))) (z_const X rfl (z_add X rfl (z_sld X S hL rfl (show 0 ≤ (i + 1) ∧ (i + 1) < (L : Int) by first | exact sx_in hi (by decide) | omega) ?_)))))
  have sr17 : rng (sc xs (i + 1)) := sc_rng
  refine z_aload_n X (x := A 517) rfl (List.Mem.tail _ (List.Mem.tail _ (List.Mem.tail _ (List.Mem.head _)))) (z_callL X (rm := rmN 342) (As := [.ref (A 0), .int (Int32.ofInt (sc xs (i + 1))), .ref (A 517)]) (st := []) rfl (by decide) rfl (by rw [E.1, E.2.1, E.2.2.1]; exact lw_enough G I (by omega) (by omega)) ⟨by rw [E.2.2.2]; exact (show 13 + 1 ≤ 2048 by decide), by rw [E.2.2.2]; exact (show 8 + (4 + 11) + 273 ≤ 84000 by decide), by rw [E.2.2.2]; exact (show ce + 1 ≤ 601024 by first | exact rmo_1 hce (by decide) | exact rmo_2 hce (by decide) | omega), by rw [E.2.2.2]; exact (show sl + 6 ≤ 7293034 by first | exact rmo_1 hsl (by decide) | exact rmo_2 hsl (by decide) | omega)⟩ (Nat.le_of_ble_eq_true rfl) (fun vv A s18 hA2 hq => ?_) (fun ee A s18 hA2 hq => ?_))
  rotate_left
  · obtain ⟨Is18, Fs18, e19, hv, hrs18, hps18⟩ := hq; cases hv
  obtain ⟨Is18, Fs18, e19, hv, hrs18, hps18⟩ := hq
  cases hv
  rw [← hA2 0 (by decide)]
  rw [← hA2 179 (by decide)]
  rw [← hA2 517 (by decide)]
  have JRLx_s18 : RLx s18 := RLx_fm Fs18 (by decide) jR
  have JFEQ_s18 : FEQ s18 := FEQ_fm Fs18 (by decide) jFEQ
  have JREQ_s18 : REQ 39 234 28 s18 := REQ_fm Fs18 (by decide) jREQ
  have JSEQ_s18 : SEQ s18 := SEQ_fm Fs18 (by decide) jSEQ
  have JARJ_s18 : ARJ s18 := ARJ_fm Fs18 ⟨by decide +kernel, by decide +kernel, by decide +kernel, by decide +kernel, by decide +kernel, by decide +kernel, by decide +kernel, by decide +kernel⟩ jARJ
  have JPTJ_s18 : PTJ s18 := PTJ_fm Fs18 (by decide +kernel) jPTJ
  have ws18_0 : iI s18 0 = iI s 0 := fm_iq Fs18 rfl
  have ws18_74 : iI s18 74 = iI s 74 := fm_iq Fs18 rfl
  have ws18_9 : iI s18 9 = iI s 9 := fm_iq Fs18 rfl
  have ws18_90 : iI s18 90 = iI s 90 := fm_iq Fs18 rfl
  have ws18_20 : iI s18 20 = iI s 20 := fm_iq Fs18 rfl
  have ws18_98 : iI s18 98 = iI s 98 := fm_iq Fs18 rfl
  have ws18_28 : iI s18 28 = iI s 28 := fm_iq Fs18 rfl
  have ws18_97 : iI s18 97 = iI s 97 := fm_iq Fs18 rfl
  have ws18_32 : iI s18 32 = iI s 32 := fm_iq Fs18 rfl
  have ws18_99 : iI s18 99 = iI s 99 := fm_iq Fs18 rfl
  have ws18_70 : iI s18 70 = iI s 70 := fm_iq Fs18 rfl
  have ws18_107 : iI s18 107 = iI s 107 := fm_iq Fs18 rfl
  have ws18_12 : iI s18 12 = iI s 12 := fm_iq Fs18 rfl
  have ws18_83 : iI s18 83 = iI s 83 := fm_iq Fs18 rfl
  have ws18_12 : iI s18 12 = iI s 12 := fm_iq Fs18 rfl
  have ws18_89 : iI s18 89 = iI s 89 := fm_iq Fs18 rfl
  show WS k 1422 [(0, .ref q1), (1, .ref (A 0)), (2, .ref (A 179)), (3, .ref (A 517)), (4, .int (Int32.ofInt i))] [.int (Int32.ofInt e19)] (Wd A dT s18) (ce + 1) (sl + 6)
  refine z_store X (lv' := [(5, .int (Int32.ofInt e19)), (0, .ref q1), (1, .ref (A 0)), (2, .ref (A 179)), (3, .ref (A 517)), (4, .int (Int32.ofInt i))]) rfl (by decide) (fun _ h => h) (z_aload_n X (x := A 179) rfl (List.Mem.tail _ (List.Mem.tail _ (List.Mem.tail _ (List.Mem.head _)))) (z_aload_n X (x := q1) rfl (List.Mem.tail _ (List.Mem.head _)) (z_load X (x := i) rfl (List.Mem.tail _ (List.Mem.tail _ (List.Mem.tail _ (List.Mem.tail _ (List.Mem.tail _ (List.Mem.head _)))))) (z_const X rfl (z_add X rfl (z_sld X S hL rfl (show 0 ≤ (i + 1) ∧ (i + 1) < (L : Int) by first | exact sx_in hi (by decide) | omega) ?_))))))
  have sr20 : rng (sc xs (i + 1)) := sc_rng
  refine z_callV X 179 (rm := rmN 278) (As := [.int (Int32.ofInt (sc xs (i + 1)))]) (st := []) rfl rfl (by decide) rfl (by rw [E.1, E.2.1, E.2.2.1]; exact k_enough G Is18 JRLx_s18 (by first | exact ⟨sr20.1, sr20.2⟩ | omega) (by first | exact oq_b44a1c7f ws18_89 p1 b16.1 | omega)) ⟨by rw [E.2.2.2]; exact (show 64 + 1 ≤ 2048 from oq_5cbe2cb6), by rw [E.2.2.2]; exact (show 8 + (3 + 11) + 2742 ≤ 84000 from oq_151ba25b), by rw [E.2.2.2]; exact (show (ce + 1) + 24 ≤ 601024 by omega), by rw [E.2.2.2]; exact (show (sl + 6) + 192 ≤ 7293034 by omega)⟩ (Nat.le_of_ble_eq_true rfl) (fun vv s21 hq => ?_) (fun ee s21 hq => ?_)
  rotate_left
  · obtain ⟨Is21, Fs21, JRLx_s21, e22, hv, hrs21, hps21⟩ := hq; cases hv
  obtain ⟨Is21, Fs21, JRLx_s21, e22, hv, hrs21, hps21⟩ := hq
  cases hv
  have JRLx_s21 : RLx s21 := RLx_fm Fs21 (by decide) JRLx_s18
  have JFEQ_s21 : FEQ s21 := FEQ_fm Fs21 (by decide) JFEQ_s18
  have JREQ_s21 : REQ 39 234 28 s21 := REQ_fm Fs21 (by decide) JREQ_s18
  have JSEQ_s21 : SEQ s21 := SEQ_fm Fs21 (by decide) JSEQ_s18
  have JARJ_s21 : ARJ s21 := ARJ_fm Fs21 ⟨by decide +kernel, by decide +kernel, by decide +kernel, by decide +kernel, by decide +kernel, by decide +kernel, by decide +kernel, by decide +kernel⟩ JARJ_s18
  have JPTJ_s21 : PTJ s21 := PTJ_fm Fs21 (by decide +kernel) JPTJ_s18
  have ws21_0 : iI s21 0 = iI s18 0 := fm_iq Fs21 rfl
  have ws21_74 : iI s21 74 = iI s18 74 := fm_iq Fs21 rfl
  have ws21_9 : iI s21 9 = iI s18 9 := fm_iq Fs21 rfl
  have ws21_90 : iI s21 90 = iI s18 90 := fm_iq Fs21 rfl
  have ws21_20 : iI s21 20 = iI s18 20 := fm_iq Fs21 rfl
  have ws21_98 : iI s21 98 = iI s18 98 := fm_iq Fs21 rfl
  have ws21_28 : iI s21 28 = iI s18 28 := fm_iq Fs21 rfl
  have ws21_97 : iI s21 97 = iI s18 97 := fm_iq Fs21 rfl
  have ws21_32 : iI s21 32 = iI s18 32 := fm_iq Fs21 rfl
  have ws21_99 : iI s21 99 = iI s18 99 := fm_iq Fs21 rfl
  have ws21_70 : iI s21 70 = iI s18 70 := fm_iq Fs21 rfl
  have ws21_107 : iI s21 107 = iI s18 107 := fm_iq Fs21 rfl
  have ws21_12 : iI s21 12 = iI s18 12 := fm_iq Fs21 rfl
  have ws21_83 : iI s21 83 = iI s18 83 := fm_iq Fs21 rfl
  have ws21_12 : iI s21 12 = iI s18 12 := fm_iq Fs21 rfl
  have b23 := bi_89 Is21
  have wos21 : iO s21 = iO s18 := fm_o Fs21 (by decide)
  show WS k 1434 [(5, .int (Int32.ofInt e19)), (0, .ref q1), (1, .ref (A 0)), (2, .ref (A 179)), (3, .ref (A 517)), (4, .int (Int32.ofInt i))] [.int (Int32.ofInt e22)] (Wd A dT s21) ((ce + 1) + 24) ((sl + 6) + 192)
  refine z_store X (lv' := [(6, .int (Int32.ofInt e22)), (5, .int (Int32.ofInt e19)), (0, .ref q1), (1, .ref (A 0)), (2, .ref (A 179)), (3, .ref (A 517)), (4, .int (Int32.ofInt i))]) rfl (by decide) (fun _ h => h) (z_goto X (t := 1866) rfl rfl (w_widen (ce' := ce + 29) (sl' := sl + 222) (by first | exact Nat.le_add_right _ _ | exact Nat.add_le_add_left (by decide) _ | omega) (by first | exact Nat.le_add_right _ _ | exact Nat.add_le_add_left (by decide) _ | omega) ?_))
  exact WS_lv (lv := [(0, .ref q1), (1, .ref (A 0)), (2, .ref (A 179)), (3, .ref (A 517)), (4, .int (Int32.ofInt i))]) (List.forall_mem_cons.mpr ⟨(List.Mem.tail _ (List.Mem.tail _ (List.Mem.head _))), (List.forall_mem_cons.mpr ⟨(List.Mem.tail _ (List.Mem.tail _ (List.Mem.tail _ (List.Mem.head _)))), (List.forall_mem_cons.mpr ⟨(List.Mem.tail _ (List.Mem.tail _ (List.Mem.tail _ (List.Mem.tail _ (List.Mem.head _))))), (List.forall_mem_cons.mpr ⟨(List.Mem.tail _ (List.Mem.tail _ (List.Mem.tail _ (List.Mem.tail _ (List.Mem.tail _ (List.Mem.head _)))))), (List.forall_mem_cons.mpr ⟨(List.Mem.tail _ (List.Mem.tail _ (List.Mem.tail _ (List.Mem.tail _ (List.Mem.tail _ (List.Mem.tail _ (List.Mem.head _))))))), (fun q h => absurd h List.not_mem_nil)⟩)⟩)⟩)⟩)⟩) (hk A _ Is21 JRLx_s21 JFEQ_s21 JREQ_s21 JSEQ_s21 JARJ_s21 JPTJ_s21 (by first | exact hps21 | omega) (by first | exact oq_d7ce4408 ws21_12 ws18_12 p2 | omega) (by first | exact oq_5bcdc35f ws21_74 ws21_0 ws18_74 ws18_0 p3 | omega) (by first | exact oq_5bcdc35f ws21_90 ws21_9 ws18_90 ws18_9 p4 | omega) (by first | exact oq_5bcdc35f ws21_98 ws21_20 ws18_98 ws18_20 p5 | omega) (by first | exact oq_5bcdc35f ws21_97 ws21_28 ws18_97 ws18_28 p6 | omega) (by first | exact oq_5bcdc35f ws21_99 ws21_32 ws18_99 ws18_32 p7 | omega) (by first | exact oq_5bcdc35f ws21_107 ws21_70 ws18_107 ws18_70 p8 | omega) (by first | exact oq_5bc06b03 ws21_83 ws21_12 ws18_83 p9 ws18_12 | omega))
theorem lc_34 (G : GX l s0 D tys a0 dT) (GR : RS0 s0) (SF : SF0 s0) (GT : TXs0 s0) (GW : TXw0 s0) {k : kx_T} (X : AX k 350 dT) (E : kL k = l ∧ kS0 k = s0 ∧ kD k = D ∧ kR k = room_1) {q1 L : Nat} {xs : Nat → Int32} (S : SX k q1 L xs) (hL : L ≤ 3072) (I : Bd s) (jR : RLx s) (jFEQ : FEQ s) (jREQ : REQ 39 234 28 s) (jSEQ : SEQ s) (jARJ : ARJ s) (jPTJ : PTJ s) (p1 : iI s 89 = 1) (p2 : iI s 12 ≤ 8) (p3 : iI s 0 = iI s 74) (p4 : iI s 9 = iI s 90) (p5 : iI s 20 = iI s 98) (p6 : iI s 28 = iI s 97) (p7 : iI s 32 = iI s 99) (p8 : iI s 70 = iI s 107) (p9 : iI s 12 = iI s 83) {i : Int} (hi : 0 ≤ i ∧ i + 6 ≤ (L : Int)) {ce sl : Nat} (hce : ce + 29 ≤ 601024) (hsl : sl + 222 ≤ 7293034) (hk : ∀ (A : Nat → Nat) (t : PS), Bd t → RLx t → FEQ t → REQ 39 234 28 t → SEQ t → ARJ t → PTJ t → iI t 89 = 1 → iI t 12 ≤ 8 → iI t 0 = iI t 74 → iI t 9 = iI t 90 → iI t 20 = iI t 98 → iI t 28 = iI t 97 → iI t 32 = iI t 99 → iI t 70 = iI t 107 → iI t 12 = iI t 83 → WS k 1866 [(0, .ref q1), (1, .ref (A 0)), (2, .ref (A 179)), (3, .ref (A 517)), (4, .int (Int32.ofInt i))] [] (Wd A dT t) (ce + 29) (sl + 222)) : WS k 1439 [(0, .ref q1), (1, .ref (A 0)), (2, .ref (A 179)), (3, .ref (A 517)), (4, .int (Int32.ofInt i))] [] (Wd A dT s) ce sl := by
  have F : Fm [1000, 1001, 73] [1460, 399] s s := fm_rf _ _ s
  have b1 := bi_0 I
  have b2 := bi_74 I
  have b3 := bi_9 I
  have b4 := bi_90 I
  have b5 := bi_20 I
  have b6 := bi_98 I
  have b7 := bi_28 I
  have b8 := bi_97 I
  have b9 := bi_32 I
  have b10 := bi_99 I
  have b11 := bi_70 I
  have b12 := bi_107 I
  have b13 := bi_12 I
  have b14 := bi_83 I
  have b15 := bi_12 I
  have b16 := bi_89 I
  refine z_aload_n X (x := A 0) rfl (List.Mem.tail _ (List.Mem.head _)) (z_aload_n X (x := q1) rfl (List.Mem.head _) (z_load X (x := i) rfl (List.Mem.tail _ (List.Mem.tail _ (List.Mem.tail _ (List.Mem.tail _ (List.Mem.head _))))) (z_const X rfl (z_add X rfl (z_sld X S hL rfl (show 0 ≤ (i + 1) ∧ (i + 1) < (L : Int) by first | exact sx_in hi (by decide) | omega) ?_)))))
  have sr17 : rng (sc xs (i + 1)) := sc_rng
  refine z_aload_n X (x := q1) rfl (List.Mem.head _) (z_load X (x := i) rfl (List.Mem.tail _ (List.Mem.tail _ (List.Mem.tail _ (List.Mem.tail _ (List.Mem.head _))))) (z_const X rfl (z_add X rfl (z_sld X S hL rfl (show 0 ≤ (i + 2) ∧ (i + 2) < (L : Int) by first | exact sx_in hi (by decide) | omega) ?_))))
  have sr18 : rng (sc xs (i + 2)) := sc_rng
  have N19 : ∀ e20 : Int, ((((sc xs (i + 2)) = 0) ∧ e20 = 0) ∨ (((sc xs (i + 2)) ≠ 0) ∧ e20 = 1)) → WS k 1460 [(0, .ref q1), (1, .ref (A 0)), (2, .ref (A 179)), (3, .ref (A 517)), (4, .int (Int32.ofInt i))] [.int (Int32.ofInt e20), .int (Int32.ofInt (sc xs (i + 1))), .ref (A 0)] (Wd A dT s) ce sl := by
    intro e20 he20
    have re20 : 0 ≤ e20 ∧ e20 ≤ 1 := by first | (clear he20; omega) | omega
    refine z_aload_n X (x := A 517) rfl (List.Mem.tail _ (List.Mem.tail _ (List.Mem.tail _ (List.Mem.head _)))) (z_callL X (rm := rmN 343) (As := [.ref (A 0), .int (Int32.ofInt (sc xs (i + 1))), .int (Int32.ofInt e20), .ref (A 517)]) (st := []) rfl (by decide) rfl (by rw [E.1, E.2.1, E.2.2.1]; exact lw_storm2 G I (by first | (clear he20; omega) | omega) (by first | (clear he20; omega) | omega)) ⟨by rw [E.2.2.2]; exact (show 9 + 1 ≤ 2048 by decide), by rw [E.2.2.2]; exact (show 8 + (5 + 11) + 168 ≤ 84000 by decide), by rw [E.2.2.2]; exact (show ce + 1 ≤ 601024 by first | exact rmo_1 hce (by decide) | exact rmo_2 hce (by decide) | omega), by rw [E.2.2.2]; exact (show sl + 6 ≤ 7293034 by first | exact rmo_1 hsl (by decide) | exact rmo_2 hsl (by decide) | omega)⟩ (Nat.le_of_ble_eq_true rfl) (fun vv A s21 hA2 hq => ?_) (fun ee A s21 hA2 hq => ?_))
    rotate_left
    · obtain ⟨Is21, Fs21, e22, hv, hrs21, hps21⟩ := hq; cases hv
    obtain ⟨Is21, Fs21, e22, hv, hrs21, hps21⟩ := hq
    cases hv
    rw [← hA2 0 (by decide)]
    rw [← hA2 179 (by decide)]
    rw [← hA2 517 (by decide)]
    have JRLx_s21 : RLx s21 := RLx_fm Fs21 (by decide) jR
    have JFEQ_s21 : FEQ s21 := FEQ_fm Fs21 (by decide) jFEQ
    have JREQ_s21 : REQ 39 234 28 s21 := REQ_fm Fs21 (by decide) jREQ
    have JARJ_s21 : ARJ s21 := ARJ_fm Fs21 ⟨by decide +kernel, by decide +kernel, by decide +kernel, by decide +kernel, by decide +kernel, by decide +kernel, by decide +kernel, by decide +kernel⟩ jARJ
    have JPTJ_s21 : PTJ s21 := PTJ_fm Fs21 (by decide +kernel) jPTJ
    have ws21_0 : iI s21 0 = iI s 0 := fm_iq Fs21 rfl
    have ws21_74 : iI s21 74 = iI s 74 := fm_iq Fs21 rfl
    have ws21_9 : iI s21 9 = iI s 9 := fm_iq Fs21 rfl
    have ws21_90 : iI s21 90 = iI s 90 := fm_iq Fs21 rfl
    have ws21_20 : iI s21 20 = iI s 20 := fm_iq Fs21 rfl
    have ws21_98 : iI s21 98 = iI s 98 := fm_iq Fs21 rfl
    have ws21_28 : iI s21 28 = iI s 28 := fm_iq Fs21 rfl
    have ws21_97 : iI s21 97 = iI s 97 := fm_iq Fs21 rfl
    have ws21_32 : iI s21 32 = iI s 32 := fm_iq Fs21 rfl
    have ws21_99 : iI s21 99 = iI s 99 := fm_iq Fs21 rfl
    have ws21_70 : iI s21 70 = iI s 70 := fm_iq Fs21 rfl
    have ws21_107 : iI s21 107 = iI s 107 := fm_iq Fs21 rfl
    have ws21_12 : iI s21 12 = iI s 12 := fm_iq Fs21 rfl
    have ws21_83 : iI s21 83 = iI s 83 := fm_iq Fs21 rfl
    have ws21_12 : iI s21 12 = iI s 12 := fm_iq Fs21 rfl
    have ws21_89 : iI s21 89 = iI s 89 := fm_iq Fs21 rfl
    show WS k 1464 [(0, .ref q1), (1, .ref (A 0)), (2, .ref (A 179)), (3, .ref (A 517)), (4, .int (Int32.ofInt i))] [.int (Int32.ofInt e22)] (Wd A dT s21) (ce + 1) (sl + 6)
    refine z_store X (lv' := [(5, .int (Int32.ofInt e22)), (0, .ref q1), (1, .ref (A 0)), (2, .ref (A 179)), (3, .ref (A 517)), (4, .int (Int32.ofInt i))]) rfl (by decide) (fun _ h => h) (z_aload_n X (x := A 179) rfl (List.Mem.tail _ (List.Mem.tail _ (List.Mem.tail _ (List.Mem.head _)))) (z_aload_n X (x := q1) rfl (List.Mem.tail _ (List.Mem.head _)) (z_load X (x := i) rfl (List.Mem.tail _ (List.Mem.tail _ (List.Mem.tail _ (List.Mem.tail _ (List.Mem.tail _ (List.Mem.head _)))))) (z_const X rfl (z_add X rfl (z_sld X S hL rfl (show 0 ≤ (i + 1) ∧ (i + 1) < (L : Int) by first | exact sx_in hi (by decide) | omega) ?_))))))
    have sr23 : rng (sc xs (i + 1)) := sc_rng
    refine z_aload_n X (x := q1) rfl (List.Mem.tail _ (List.Mem.head _)) (z_load X (x := i) rfl (List.Mem.tail _ (List.Mem.tail _ (List.Mem.tail _ (List.Mem.tail _ (List.Mem.tail _ (List.Mem.head _)))))) (z_const X rfl (z_add X rfl (z_sld X S hL rfl (show 0 ≤ (i + 2) ∧ (i + 2) < (L : Int) by first | exact sx_in hi (by decide) | omega) ?_))))
    have sr24 : rng (sc xs (i + 2)) := sc_rng
    have N25 : ∀ e26 : Int, ((((sc xs (i + 2)) = 0) ∧ e26 = 0) ∨ (((sc xs (i + 2)) ≠ 0) ∧ e26 = 1)) → WS k 1487 [(5, .int (Int32.ofInt e22)), (0, .ref q1), (1, .ref (A 0)), (2, .ref (A 179)), (3, .ref (A 517)), (4, .int (Int32.ofInt i))] [.int (Int32.ofInt e26), .int (Int32.ofInt (sc xs (i + 1))), .ref (A 179)] (Wd A dT s21) (ce + 1) (sl + 6) := by
      intro e26 he26
      have re26 : 0 ≤ e26 ∧ e26 ≤ 1 := by first | (clear he26 hps21 he20; omega) | (clear hps21 he20; omega) | omega
      refine z_callV X 179 (rm := rmN 279) (As := [.int (Int32.ofInt (sc xs (i + 1))), .int (Int32.ofInt e26)]) (st := []) rfl rfl (by decide) rfl (by rw [E.1, E.2.1, E.2.2.1]; exact k_storm2 G Is21 (by first | exact ⟨sr23.1, sr23.2⟩ | omega) (by first | exact oq_31e518ae re26.2 re26.1 | omega)) ⟨by rw [E.2.2.2]; exact (show 7 + 1 ≤ 2048 from oq_4e6106eb), by rw [E.2.2.2]; exact (show 8 + (4 + 11) + 122 ≤ 84000 from oq_ebbf79c1), by rw [E.2.2.2]; exact (show (ce + 1) + 0 ≤ 601024 by first | (clear he26 hps21 he20; omega) | (clear hps21 he20; omega) | omega), by rw [E.2.2.2]; exact (show (sl + 6) + 0 ≤ 7293034 by first | (clear he26 hps21 he20; omega) | (clear hps21 he20; omega) | omega)⟩ (Nat.le_of_ble_eq_true rfl) (fun vv s27 hq => ?_) (fun ee s27 hq => ?_)
      rotate_left
      · obtain ⟨Is27, Fs27, e28, hv, hrs27, hps27⟩ := hq; cases hv
      obtain ⟨Is27, Fs27, e28, hv, hrs27, hps27⟩ := hq
      cases hv
      have JRLx_s27 : RLx s27 := RLx_fm Fs27 (by decide) JRLx_s21
      have JFEQ_s27 : FEQ s27 := FEQ_fm Fs27 (by decide) JFEQ_s21
      have JREQ_s27 : REQ 39 234 28 s27 := REQ_fm Fs27 (by decide) JREQ_s21
      have JARJ_s27 : ARJ s27 := ARJ_fm Fs27 ⟨by decide +kernel, by decide +kernel, by decide +kernel, by decide +kernel, by decide +kernel, by decide +kernel, by decide +kernel, by decide +kernel⟩ JARJ_s21
      have JPTJ_s27 : PTJ s27 := PTJ_fm Fs27 (by decide +kernel) JPTJ_s21
      have ws27_0 : iI s27 0 = iI s21 0 := fm_iq Fs27 rfl
      have ws27_74 : iI s27 74 = iI s21 74 := fm_iq Fs27 rfl
      have ws27_9 : iI s27 9 = iI s21 9 := fm_iq Fs27 rfl
      have ws27_90 : iI s27 90 = iI s21 90 := fm_iq Fs27 rfl
      have ws27_20 : iI s27 20 = iI s21 20 := fm_iq Fs27 rfl
      have ws27_98 : iI s27 98 = iI s21 98 := fm_iq Fs27 rfl
      have ws27_28 : iI s27 28 = iI s21 28 := fm_iq Fs27 rfl
      have ws27_97 : iI s27 97 = iI s21 97 := fm_iq Fs27 rfl
      have ws27_32 : iI s27 32 = iI s21 32 := fm_iq Fs27 rfl
      have ws27_99 : iI s27 99 = iI s21 99 := fm_iq Fs27 rfl
      have ws27_70 : iI s27 70 = iI s21 70 := fm_iq Fs27 rfl
      have ws27_107 : iI s27 107 = iI s21 107 := fm_iq Fs27 rfl
      have ws27_12 : iI s27 12 = iI s21 12 := fm_iq Fs27 rfl
      have ws27_83 : iI s27 83 = iI s21 83 := fm_iq Fs27 rfl
      have ws27_12 : iI s27 12 = iI s21 12 := fm_iq Fs27 rfl
      have ws27_89 : iI s27 89 = iI s21 89 := fm_iq Fs27 rfl
      have wos27 : iO s27 = iO s21 := fm_o Fs27 (by decide)
      show WS k 1490 [(5, .int (Int32.ofInt e22)), (0, .ref q1), (1, .ref (A 0)), (2, .ref (A 179)), (3, .ref (A 517)), (4, .int (Int32.ofInt i))] [.int (Int32.ofInt e28)] (Wd A dT s27) (ce + 1) (sl + 6)
      rcases hps21 with cc | cc
      ·
        rcases hps27 with mm | mm
        ·
          have jq29 : SEQ s27 := seq_same jSEQ (sbs_ts cc.2.2 (sbs_fm Fs27 (by decide))) (sam_ts (sam_fm Fs21 (by decide)) mm.2.2)
          refine z_store X (lv' := [(6, .int (Int32.ofInt e28)), (5, .int (Int32.ofInt e22)), (0, .ref q1), (1, .ref (A 0)), (2, .ref (A 179)), (3, .ref (A 517)), (4, .int (Int32.ofInt i))]) rfl (by decide) (fun _ h => h) (z_goto X (t := 1866) rfl rfl (w_widen (ce' := ce + 29) (sl' := sl + 222) (by first | exact Nat.le_add_right _ _ | exact Nat.add_le_add_left (by decide) _ | omega) (by first | exact Nat.le_add_right _ _ | exact Nat.add_le_add_left (by decide) _ | omega) ?_))
          exact WS_lv (lv := [(0, .ref q1), (1, .ref (A 0)), (2, .ref (A 179)), (3, .ref (A 517)), (4, .int (Int32.ofInt i))]) (List.forall_mem_cons.mpr ⟨(List.Mem.tail _ (List.Mem.tail _ (List.Mem.head _))), (List.forall_mem_cons.mpr ⟨(List.Mem.tail _ (List.Mem.tail _ (List.Mem.tail _ (List.Mem.head _)))), (List.forall_mem_cons.mpr ⟨(List.Mem.tail _ (List.Mem.tail _ (List.Mem.tail _ (List.Mem.tail _ (List.Mem.head _))))), (List.forall_mem_cons.mpr ⟨(List.Mem.tail _ (List.Mem.tail _ (List.Mem.tail _ (List.Mem.tail _ (List.Mem.tail _ (List.Mem.head _)))))), (List.forall_mem_cons.mpr ⟨(List.Mem.tail _ (List.Mem.tail _ (List.Mem.tail _ (List.Mem.tail _ (List.Mem.tail _ (List.Mem.tail _ (List.Mem.head _))))))), (fun q h => absurd h List.not_mem_nil)⟩)⟩)⟩)⟩)⟩) (hk A _ Is27 JRLx_s27 JFEQ_s27 JREQ_s27 jq29 JARJ_s27 JPTJ_s27 (by first | exact oq_f34933ba ws27_89 ws21_89 p1 b16.1 | omega) (by first | exact oq_d7ce4408 ws27_12 ws21_12 p2 | omega) (by first | exact oq_5bcdc35f ws27_74 ws27_0 ws21_74 ws21_0 p3 | omega) (by first | exact oq_5bcdc35f ws27_90 ws27_9 ws21_90 ws21_9 p4 | omega) (by first | exact oq_5bcdc35f ws27_98 ws27_20 ws21_98 ws21_20 p5 | omega) (by first | exact oq_5bcdc35f ws27_97 ws27_28 ws21_97 ws21_28 p6 | omega) (by first | exact oq_5bcdc35f ws27_99 ws27_32 ws21_99 ws21_32 p7 | omega) (by first | exact oq_5bcdc35f ws27_107 ws27_70 ws21_107 ws21_70 p8 | omega) (by first | exact oq_5bc06b03 ws27_83 ws27_12 ws21_83 p9 ws21_12 | omega))
        ·
          exfalso
          omega
      ·
        rcases hps27 with mm | mm
        ·
          exfalso
          omega
        ·
          have jq30 : SEQ s27 := seq_upd jSEQ (by first | (clear hps27 he26 hps21 he20; omega) | (clear he26 hps21 he20; omega) | omega) (by first | (clear hps27 he26 hps21 he20; omega) | (clear he26 hps21 he20; omega) | omega) cc.2.2.2.2 (sam_fm Fs21 (by decide)) (by first | (clear hps27 he26 hps21 he20; omega) | (clear he26 hps21 he20; omega) | omega) mm.2.2.2.2 (sbs_fm Fs27 (by decide))
          have rq31 := seq_ans jSEQ I (by first | (clear hps27 he26 hps21 he20; omega) | (clear he26 hps21 he20; omega) | omega) cc.2.2.2.1
          have rq32 : iC s21 399 (sc xs (i + 1)).toNat = iC s 399 (sc xs (i + 1)).toNat := (sam_fm Fs21 (by decide)) _
          refine z_store X (lv' := [(6, .int (Int32.ofInt e28)), (5, .int (Int32.ofInt e22)), (0, .ref q1), (1, .ref (A 0)), (2, .ref (A 179)), (3, .ref (A 517)), (4, .int (Int32.ofInt i))]) rfl (by decide) (fun _ h => h) (z_goto X (t := 1866) rfl rfl (w_widen (ce' := ce + 29) (sl' := sl + 222) (by first | exact Nat.le_add_right _ _ | exact Nat.add_le_add_left (by decide) _ | omega) (by first | exact Nat.le_add_right _ _ | exact Nat.add_le_add_left (by decide) _ | omega) ?_))
          exact WS_lv (lv := [(0, .ref q1), (1, .ref (A 0)), (2, .ref (A 179)), (3, .ref (A 517)), (4, .int (Int32.ofInt i))]) (List.forall_mem_cons.mpr ⟨(List.Mem.tail _ (List.Mem.tail _ (List.Mem.head _))), (List.forall_mem_cons.mpr ⟨(List.Mem.tail _ (List.Mem.tail _ (List.Mem.tail _ (List.Mem.head _)))), (List.forall_mem_cons.mpr ⟨(List.Mem.tail _ (List.Mem.tail _ (List.Mem.tail _ (List.Mem.tail _ (List.Mem.head _))))), (List.forall_mem_cons.mpr ⟨(List.Mem.tail _ (List.Mem.tail _ (List.Mem.tail _ (List.Mem.tail _ (List.Mem.tail _ (List.Mem.head _)))))), (List.forall_mem_cons.mpr ⟨(List.Mem.tail _ (List.Mem.tail _ (List.Mem.tail _ (List.Mem.tail _ (List.Mem.tail _ (List.Mem.tail _ (List.Mem.head _))))))), (fun q h => absurd h List.not_mem_nil)⟩)⟩)⟩)⟩)⟩) (hk A _ Is27 JRLx_s27 JFEQ_s27 JREQ_s27 jq30 JARJ_s27 JPTJ_s27 (by first | exact oq_f34933ba ws27_89 ws21_89 p1 b16.1 | omega) (by first | exact oq_d7ce4408 ws27_12 ws21_12 p2 | omega) (by first | exact oq_5bcdc35f ws27_74 ws27_0 ws21_74 ws21_0 p3 | omega) (by first | exact oq_5bcdc35f ws27_90 ws27_9 ws21_90 ws21_9 p4 | omega) (by first | exact oq_5bcdc35f ws27_98 ws27_20 ws21_98 ws21_20 p5 | omega) (by first | exact oq_5bcdc35f ws27_97 ws27_28 ws21_97 ws21_28 p6 | omega) (by first | exact oq_5bcdc35f ws27_99 ws27_32 ws21_99 ws21_32 p7 | omega) (by first | exact oq_5bcdc35f ws27_107 ws27_70 ws21_107 ws21_70 p8 | omega) (by first | exact oq_5bc06b03 ws27_83 ws27_12 ws21_83 p9 ws21_12 | omega))
    refine z_if_eq X (t := 1486) rfl rfl ⟨by first | exact sr24.1 | omega, by first | exact sr24.2 | omega⟩ (fun g33 => ?_) (fun g33 => ?_)
    ·
      exact z_const X rfl (N25 _ (Or.inl ⟨g33, rfl⟩))
    ·
      exact z_const X rfl (z_goto X (t := 1487) rfl rfl (N25 _ (Or.inr (⟨g33, rfl⟩))))
  refine z_if_eq X (t := 1459) rfl rfl ⟨by first | exact sr18.1 | omega, by first | exact sr18.2 | omega⟩ (fun g34 => ?_) (fun g34 => ?_)
  ·
    exact z_const X rfl (N19 _ (Or.inl ⟨g34, rfl⟩))
  ·
    exact z_const X rfl (z_goto X (t := 1460) rfl rfl (N19 _ (Or.inr (⟨g34, rfl⟩))))
theorem lc_35 (G : GX l s0 D tys a0 dT) (GR : RS0 s0) (SF : SF0 s0) (GT : TXs0 s0) (GW : TXw0 s0) {k : kx_T} (X : AX k 350 dT) (E : kL k = l ∧ kS0 k = s0 ∧ kD k = D ∧ kR k = room_1) {q1 L : Nat} {xs : Nat → Int32} (S : SX k q1 L xs) (hL : L ≤ 3072) (I : Bd s) (jR : RLx s) (jFEQ : FEQ s) (jREQ : REQ 39 234 28 s) (jSEQ : SEQ s) (jARJ : ARJ s) (jPTJ : PTJ s) (p1 : iI s 89 = 1) (p2 : iI s 12 ≤ 8) (p3 : iI s 0 = iI s 74) (p4 : iI s 9 = iI s 90) (p5 : iI s 20 = iI s 98) (p6 : iI s 28 = iI s 97) (p7 : iI s 32 = iI s 99) (p8 : iI s 70 = iI s 107) (p9 : iI s 12 = iI s 83) {i : Int} (hi : 0 ≤ i ∧ i + 6 ≤ (L : Int)) {ce sl : Nat} (hce : ce + 29 ≤ 601024) (hsl : sl + 222 ≤ 7293034) (hk : ∀ (A : Nat → Nat) (t : PS), Bd t → RLx t → FEQ t → REQ 39 234 28 t → SEQ t → ARJ t → PTJ t → iI t 89 = 1 → iI t 12 ≤ 8 → iI t 0 = iI t 74 → iI t 9 = iI t 90 → iI t 20 = iI t 98 → iI t 28 = iI t 97 → iI t 32 = iI t 99 → iI t 70 = iI t 107 → iI t 12 = iI t 83 → WS k 1866 [(0, .ref q1), (1, .ref (A 0)), (2, .ref (A 179)), (3, .ref (A 517)), (4, .int (Int32.ofInt i))] [] (Wd A dT t) (ce + 29) (sl + 222)) : WS k 1495 [(0, .ref q1), (1, .ref (A 0)), (2, .ref (A 179)), (3, .ref (A 517)), (4, .int (Int32.ofInt i))] [] (Wd A dT s) ce sl := by
  have F : Fm [43, 44, 46, 47, 49, 50, 52, 53, 55, 56, 58, 59, 61, 62, 64, 65, 67, 68, 42, 39, 40, 41, 73, 105, 106, 77, 75, 78, 79, 80, 81] [57, 58, 67, 62, 77, 78, 79, 73, 87, 80, 81, 82, 83, 84, 85, 86, 96, 89, 90, 91, 92, 93, 94, 95, 105, 98, 99, 100, 101, 102, 103, 104, 114, 107, 108, 109, 110, 111, 112, 113, 123, 116, 117, 118, 119, 120, 121, 122, 132, 125, 126, 127, 128, 129, 130, 131, 141, 134, 135, 136, 137, 138, 139, 140, 150, 143, 144, 145, 146, 147, 148, 149, 20, 76, 74, 75, 72, 1059, 1060, 1061, 1063, 1460, 401, 400, 403, 404, 232, 402, 405, 406, 407, 408, 409, 410, 411, 412, 413, 414, 415, 416, 202, 204, 205, 206, 207, 208, 209, 210, 211, 212, 213, 214, 215, 216, 217, 218, 219, 220, 221, 222, 223, 224, 225, 226, 227, 203, 161, 230] s s := fm_rf _ _ s
  have b1 := bi_0 I
  have b2 := bi_74 I
  have b3 := bi_9 I
  have b4 := bi_90 I
  have b5 := bi_20 I
  have b6 := bi_98 I
  have b7 := bi_28 I
  have b8 := bi_97 I
  have b9 := bi_32 I
  have b10 := bi_99 I
  have b11 := bi_70 I
  have b12 := bi_107 I
  have b13 := bi_12 I
  have b14 := bi_83 I
  have b15 := bi_12 I
  have b16 := bi_89 I
  refine z_aload_n X (x := A 0) rfl (List.Mem.tail _ (List.Mem.head _)) (z_aload_n X (x := q1) rfl (List.Mem.head _) (z_load X (x := i) rfl (List.Mem.tail _ (List.Mem.tail _ (List.Mem.tail _ (List.Mem.tail _ (List.Mem.head _))))) (z_const X rfl (z_add X rfl (z_sld X S hL rfl (show 0 ≤ (i + 1) ∧ (i + 1) < (L : Int) by first | exact sx_in hi (by decide) | omega) ?_)))))
  have sr17 : rng (sc xs (i + 1)) := sc_rng
  refine z_aload_n X (x := q1) rfl (List.Mem.head _) (z_load X (x := i) rfl (List.Mem.tail _ (List.Mem.tail _ (List.Mem.tail _ (List.Mem.tail _ (List.Mem.head _))))) (z_const X rfl (z_add X rfl (z_sld X S hL rfl (show 0 ≤ (i + 2) ∧ (i + 2) < (L : Int) by first | exact sx_in hi (by decide) | omega) ?_))))
  have sr18 : rng (sc xs (i + 2)) := sc_rng
  refine z_aload_n X (x := q1) rfl (List.Mem.head _) (z_load X (x := i) rfl (List.Mem.tail _ (List.Mem.tail _ (List.Mem.tail _ (List.Mem.tail _ (List.Mem.head _))))) (z_const X rfl (z_add X rfl (z_sld X S hL rfl (show 0 ≤ (i + 3) ∧ (i + 3) < (L : Int) by first | exact sx_in hi (by decide) | omega) ?_))))
  have sr19 : rng (sc xs (i + 3)) := sc_rng
  refine z_aload_n X (x := q1) rfl (List.Mem.head _) (z_load X (x := i) rfl (List.Mem.tail _ (List.Mem.tail _ (List.Mem.tail _ (List.Mem.tail _ (List.Mem.head _))))) (z_const X rfl (z_add X rfl (z_sld X S hL rfl (show 0 ≤ (i + 4) ∧ (i + 4) < (L : Int) by first | exact sx_in hi (by decide) | omega) ?_))))
  have sr20 : rng (sc xs (i + 4)) := sc_rng
  refine z_aload_n X (x := A 517) rfl (List.Mem.tail _ (List.Mem.tail _ (List.Mem.tail _ (List.Mem.head _)))) (z_callL X (rm := rmN 344) (As := [.ref (A 0), .int (Int32.ofInt (sc xs (i + 1))), .int (Int32.ofInt (sc xs (i + 2))), .int (Int32.ofInt (sc xs (i + 3))), .int (Int32.ofInt (sc xs (i + 4))), .ref (A 517)]) (st := []) rfl (by decide) rfl (by rw [E.1, E.2.1, E.2.2.1]; exact lw_mends G GR I (by omega) (by omega) (by omega) (by omega)) ⟨by rw [E.2.2.2]; exact (show 55 + 1 ≤ 2048 by decide), by rw [E.2.2.2]; exact (show 8 + (7 + 11) + 2372 ≤ 84000 by decide), by rw [E.2.2.2]; exact (show ce + 4 ≤ 601024 by first | exact rmo_1 hce (by decide) | exact rmo_2 hce (by decide) | omega), by rw [E.2.2.2]; exact (show sl + 24 ≤ 7293034 by first | exact rmo_1 hsl (by decide) | exact rmo_2 hsl (by decide) | omega)⟩ (Nat.le_of_ble_eq_true rfl) (fun vv A s21 hA2 hq => ?_) (fun ee A s21 hA2 hq => ?_))
  rotate_left
  · obtain ⟨Is21, Fs21, e22, hv, hrs21, hps21⟩ := hq; cases hv
  obtain ⟨Is21, Fs21, e22, hv, hrs21, hps21⟩ := hq
  cases hv
  rw [← hA2 0 (by decide)]
  rw [← hA2 179 (by decide)]
  rw [← hA2 517 (by decide)]
  have JRLx_s21 : RLx s21 := RLx_fm Fs21 (by decide) jR
  have JFEQ_s21 : FEQ s21 := FEQ_fm Fs21 (by decide) jFEQ
  have JREQ_s21 : REQ 39 234 28 s21 := REQ_fm Fs21 (by decide) jREQ
  have JSEQ_s21 : SEQ s21 := SEQ_fm Fs21 (by decide) jSEQ
  have JARJ_s21 : ARJ s21 := ARJ_fm Fs21 ⟨by decide +kernel, by decide +kernel, by decide +kernel, by decide +kernel, by decide +kernel, by decide +kernel, by decide +kernel, by decide +kernel⟩ jARJ
  have JPTJ_s21 : PTJ s21 := PTJ_fm Fs21 (by decide +kernel) jPTJ
  have ws21_0 : iI s21 0 = iI s 0 := fm_iq Fs21 rfl
  have ws21_74 : iI s21 74 = iI s 74 := fm_iq Fs21 rfl
  have ws21_9 : iI s21 9 = iI s 9 := fm_iq Fs21 rfl
  have ws21_90 : iI s21 90 = iI s 90 := fm_iq Fs21 rfl
  have ws21_20 : iI s21 20 = iI s 20 := fm_iq Fs21 rfl
  have ws21_98 : iI s21 98 = iI s 98 := fm_iq Fs21 rfl
  have ws21_28 : iI s21 28 = iI s 28 := fm_iq Fs21 rfl
  have ws21_97 : iI s21 97 = iI s 97 := fm_iq Fs21 rfl
  have ws21_32 : iI s21 32 = iI s 32 := fm_iq Fs21 rfl
  have ws21_99 : iI s21 99 = iI s 99 := fm_iq Fs21 rfl
  have ws21_70 : iI s21 70 = iI s 70 := fm_iq Fs21 rfl
  have ws21_107 : iI s21 107 = iI s 107 := fm_iq Fs21 rfl
  have ws21_12 : iI s21 12 = iI s 12 := fm_iq Fs21 rfl
  have ws21_83 : iI s21 83 = iI s 83 := fm_iq Fs21 rfl
  have ws21_12 : iI s21 12 = iI s 12 := fm_iq Fs21 rfl
  have ws21_89 : iI s21 89 = iI s 89 := fm_iq Fs21 rfl
  show WS k 1524 [(0, .ref q1), (1, .ref (A 0)), (2, .ref (A 179)), (3, .ref (A 517)), (4, .int (Int32.ofInt i))] [.int (Int32.ofInt e22)] (Wd A dT s21) (ce + 4) (sl + 24)
  refine z_store X (lv' := [(5, .int (Int32.ofInt e22)), (0, .ref q1), (1, .ref (A 0)), (2, .ref (A 179)), (3, .ref (A 517)), (4, .int (Int32.ofInt i))]) rfl (by decide) (fun _ h => h) (z_aload_n X (x := A 179) rfl (List.Mem.tail _ (List.Mem.tail _ (List.Mem.tail _ (List.Mem.head _)))) (z_aload_n X (x := q1) rfl (List.Mem.tail _ (List.Mem.head _)) (z_load X (x := i) rfl (List.Mem.tail _ (List.Mem.tail _ (List.Mem.tail _ (List.Mem.tail _ (List.Mem.tail _ (List.Mem.head _)))))) (z_const X rfl (z_add X rfl (z_sld X S hL rfl (show 0 ≤ (i + 1) ∧ (i + 1) < (L : Int) by first | exact sx_in hi (by decide) | omega) ?_))))))
  have sr23 : rng (sc xs (i + 1)) := sc_rng
  refine z_aload_n X (x := q1) rfl (List.Mem.tail _ (List.Mem.head _)) (z_load X (x := i) rfl (List.Mem.tail _ (List.Mem.tail _ (List.Mem.tail _ (List.Mem.tail _ (List.Mem.tail _ (List.Mem.head _)))))) (z_const X rfl (z_add X rfl (z_sld X S hL rfl (show 0 ≤ (i + 2) ∧ (i + 2) < (L : Int) by first | exact sx_in hi (by decide) | omega) ?_))))
  have sr24 : rng (sc xs (i + 2)) := sc_rng
  refine z_aload_n X (x := q1) rfl (List.Mem.tail _ (List.Mem.head _)) (z_load X (x := i) rfl (List.Mem.tail _ (List.Mem.tail _ (List.Mem.tail _ (List.Mem.tail _ (List.Mem.tail _ (List.Mem.head _)))))) (z_const X rfl (z_add X rfl (z_sld X S hL rfl (show 0 ≤ (i + 3) ∧ (i + 3) < (L : Int) by first | exact sx_in hi (by decide) | omega) ?_))))
  have sr25 : rng (sc xs (i + 3)) := sc_rng
  refine z_aload_n X (x := q1) rfl (List.Mem.tail _ (List.Mem.head _)) (z_load X (x := i) rfl (List.Mem.tail _ (List.Mem.tail _ (List.Mem.tail _ (List.Mem.tail _ (List.Mem.tail _ (List.Mem.head _)))))) (z_const X rfl (z_add X rfl (z_sld X S hL rfl (show 0 ≤ (i + 4) ∧ (i + 4) < (L : Int) by first | exact sx_in hi (by decide) | omega) ?_))))
  have sr26 : rng (sc xs (i + 4)) := sc_rng
  refine z_callV X 179 (rm := rmN 286) (As := [.int (Int32.ofInt (sc xs (i + 1))), .int (Int32.ofInt (sc xs (i + 2))), .int (Int32.ofInt (sc xs (i + 3))), .int (Int32.ofInt (sc xs (i + 4)))]) (st := []) rfl rfl (by decide) rfl (by rw [E.1, E.2.1, E.2.2.1]; exact k_mends G Is21 JRLx_s21 (by first | exact ⟨sr23.1, sr23.2⟩ | omega) (by first | exact ⟨sr24.1, sr24.2⟩ | omega) (by first | exact ⟨sr25.1, sr25.2⟩ | omega) (by first | exact ⟨sr26.1, sr26.2⟩ | omega)) ⟨by rw [E.2.2.2]; exact (show 73 + 1 ≤ 2048 from oq_c67cc45d), by rw [E.2.2.2]; exact (show 8 + (7 + 11) + 3227 ≤ 84000 from oq_f40e0be7), by rw [E.2.2.2]; exact (show (ce + 4) + 0 ≤ 601024 by omega), by rw [E.2.2.2]; exact (show (sl + 24) + 0 ≤ 7293034 by omega)⟩ (Nat.le_of_ble_eq_true rfl) (fun vv s27 hq => ?_) (fun ee s27 hq => ?_)
  rotate_left
  · obtain ⟨Is27, Fs27, JRLx_s27, e28, hv, hrs27, hps27⟩ := hq; cases hv
  obtain ⟨Is27, Fs27, JRLx_s27, e28, hv, hrs27, hps27⟩ := hq
  cases hv
  have JRLx_s27 : RLx s27 := RLx_fm Fs27 (by decide) JRLx_s21
  have JFEQ_s27 : FEQ s27 := FEQ_fm Fs27 (by decide) JFEQ_s21
  have JREQ_s27 : REQ 39 234 28 s27 := REQ_fm Fs27 (by decide) JREQ_s21
  have JSEQ_s27 : SEQ s27 := SEQ_fm Fs27 (by decide) JSEQ_s21
  have JARJ_s27 : ARJ s27 := ARJ_fm Fs27 ⟨by decide +kernel, by decide +kernel, by decide +kernel, by decide +kernel, by decide +kernel, by decide +kernel, by decide +kernel, by decide +kernel⟩ JARJ_s21
  have JPTJ_s27 : PTJ s27 := PTJ_fm Fs27 (by decide +kernel) JPTJ_s21
  have ws27_0 : iI s27 0 = iI s21 0 := fm_iq Fs27 rfl
  have ws27_74 : iI s27 74 = iI s21 74 := fm_iq Fs27 rfl
  have ws27_9 : iI s27 9 = iI s21 9 := fm_iq Fs27 rfl
  have ws27_90 : iI s27 90 = iI s21 90 := fm_iq Fs27 rfl
  have ws27_20 : iI s27 20 = iI s21 20 := fm_iq Fs27 rfl
  have ws27_98 : iI s27 98 = iI s21 98 := fm_iq Fs27 rfl
  have ws27_28 : iI s27 28 = iI s21 28 := fm_iq Fs27 rfl
  have ws27_97 : iI s27 97 = iI s21 97 := fm_iq Fs27 rfl
  have ws27_32 : iI s27 32 = iI s21 32 := fm_iq Fs27 rfl
  have ws27_99 : iI s27 99 = iI s21 99 := fm_iq Fs27 rfl
  have ws27_70 : iI s27 70 = iI s21 70 := fm_iq Fs27 rfl
  have ws27_107 : iI s27 107 = iI s21 107 := fm_iq Fs27 rfl
  have ws27_12 : iI s27 12 = iI s21 12 := fm_iq Fs27 rfl
  have ws27_83 : iI s27 83 = iI s21 83 := fm_iq Fs27 rfl
  have ws27_12 : iI s27 12 = iI s21 12 := fm_iq Fs27 rfl
  have ws27_89 : iI s27 89 = iI s21 89 := fm_iq Fs27 rfl
  have wos27 : iO s27 = iO s21 := fm_o Fs27 (by decide)
  show WS k 1554 [(5, .int (Int32.ofInt e22)), (0, .ref q1), (1, .ref (A 0)), (2, .ref (A 179)), (3, .ref (A 517)), (4, .int (Int32.ofInt i))] [.int (Int32.ofInt e28)] (Wd A dT s27) (ce + 4) (sl + 24)
  refine z_store X (lv' := [(6, .int (Int32.ofInt e28)), (5, .int (Int32.ofInt e22)), (0, .ref q1), (1, .ref (A 0)), (2, .ref (A 179)), (3, .ref (A 517)), (4, .int (Int32.ofInt i))]) rfl (by decide) (fun _ h => h) (z_goto X (t := 1866) rfl rfl (w_widen (ce' := ce + 29) (sl' := sl + 222) (by first | exact Nat.le_add_right _ _ | exact Nat.add_le_add_left (by decide) _ | omega) (by first | exact Nat.le_add_right _ _ | exact Nat.add_le_add_left (by decide) _ | omega) ?_))
  exact WS_lv (lv := [(0, .ref q1), (1, .ref (A 0)), (2, .ref (A 179)), (3, .ref (A 517)), (4, .int (Int32.ofInt i))]) (List.forall_mem_cons.mpr ⟨(List.Mem.tail _ (List.Mem.tail _ (List.Mem.head _))), (List.forall_mem_cons.mpr ⟨(List.Mem.tail _ (List.Mem.tail _ (List.Mem.tail _ (List.Mem.head _)))), (List.forall_mem_cons.mpr ⟨(List.Mem.tail _ (List.Mem.tail _ (List.Mem.tail _ (List.Mem.tail _ (List.Mem.head _))))), (List.forall_mem_cons.mpr ⟨(List.Mem.tail _ (List.Mem.tail _ (List.Mem.tail _ (List.Mem.tail _ (List.Mem.tail _ (List.Mem.head _)))))), (List.forall_mem_cons.mpr ⟨(List.Mem.tail _ (List.Mem.tail _ (List.Mem.tail _ (List.Mem.tail _ (List.Mem.tail _ (List.Mem.tail _ (List.Mem.head _))))))), (fun q h => absurd h List.not_mem_nil)⟩)⟩)⟩)⟩)⟩) (hk A _ Is27 JRLx_s27 JFEQ_s27 JREQ_s27 JSEQ_s27 JARJ_s27 JPTJ_s27 (by first | exact oq_f34933ba ws27_89 ws21_89 p1 b16.1 | omega) (by first | exact oq_d7ce4408 ws27_12 ws21_12 p2 | omega) (by first | exact oq_5bcdc35f ws27_74 ws27_0 ws21_74 ws21_0 p3 | omega) (by first | exact oq_5bcdc35f ws27_90 ws27_9 ws21_90 ws21_9 p4 | omega) (by first | exact oq_5bcdc35f ws27_98 ws27_20 ws21_98 ws21_20 p5 | omega) (by first | exact oq_5bcdc35f ws27_97 ws27_28 ws21_97 ws21_28 p6 | omega) (by first | exact oq_5bcdc35f ws27_99 ws27_32 ws21_99 ws21_32 p7 | omega) (by first | exact oq_5bcdc35f ws27_107 ws27_70 ws21_107 ws21_70 p8 | omega) (by first | exact oq_5bc06b03 ws27_83 ws27_12 ws21_83 p9 ws21_12 | omega))
theorem lc_36 (G : GX l s0 D tys a0 dT) (GR : RS0 s0) (SF : SF0 s0) (GT : TXs0 s0) (GW : TXw0 s0) {k : kx_T} (X : AX k 350 dT) (E : kL k = l ∧ kS0 k = s0 ∧ kD k = D ∧ kR k = room_1) {q1 L : Nat} {xs : Nat → Int32} (S : SX k q1 L xs) (hL : L ≤ 3072) (I : Bd s) (jR : RLx s) (jFEQ : FEQ s) (jREQ : REQ 39 234 28 s) (jSEQ : SEQ s) (jARJ : ARJ s) (jPTJ : PTJ s) (p1 : iI s 89 = 1) (p2 : iI s 12 ≤ 8) (p3 : iI s 0 = iI s 74) (p4 : iI s 9 = iI s 90) (p5 : iI s 20 = iI s 98) (p6 : iI s 28 = iI s 97) (p7 : iI s 32 = iI s 99) (p8 : iI s 70 = iI s 107) (p9 : iI s 12 = iI s 83) {i : Int} (hi : 0 ≤ i ∧ i + 6 ≤ (L : Int)) {ce sl : Nat} (hce : ce + 29 ≤ 601024) (hsl : sl + 222 ≤ 7293034) (hk : ∀ (A : Nat → Nat) (t : PS), Bd t → RLx t → FEQ t → REQ 39 234 28 t → SEQ t → ARJ t → PTJ t → iI t 89 = 1 → iI t 12 ≤ 8 → iI t 0 = iI t 74 → iI t 9 = iI t 90 → iI t 20 = iI t 98 → iI t 28 = iI t 97 → iI t 32 = iI t 99 → iI t 70 = iI t 107 → iI t 12 = iI t 83 → WS k 1866 [(0, .ref q1), (1, .ref (A 0)), (2, .ref (A 179)), (3, .ref (A 517)), (4, .int (Int32.ofInt i))] [] (Wd A dT t) (ce + 29) (sl + 222)) : WS k 1559 [(0, .ref q1), (1, .ref (A 0)), (2, .ref (A 179)), (3, .ref (A 517)), (4, .int (Int32.ofInt i))] [] (Wd A dT s) ce sl := by
  have F : Fm [22, 23, 70, 73, 107, 77, 75, 78, 79, 80, 81] [33, 26, 27, 28, 29, 30, 31, 32, 152, 153, 154, 1460, 202, 204, 205, 206, 207, 208, 209, 210, 211, 212, 213, 214, 215, 216, 217, 218, 219, 220, 221, 222, 223, 224, 225, 226, 227, 203, 161, 230, 417, 418, 419, 420, 421, 422, 423, 424, 425, 426, 427, 428, 429, 430, 431, 432, 433, 434, 435, 436, 437, 438, 439, 440, 441, 442, 443, 444, 445, 446, 447, 448, 449, 450, 451, 452, 453, 454, 455, 456, 457, 459] s s := fm_rf _ _ s
  have b1 := bi_0 I
  have b2 := bi_74 I
  have b3 := bi_9 I
  have b4 := bi_90 I
  have b5 := bi_20 I
  have b6 := bi_98 I
  have b7 := bi_28 I
  have b8 := bi_97 I
  have b9 := bi_32 I
  have b10 := bi_99 I
  have b11 := bi_70 I
  have b12 := bi_107 I
  have b13 := bi_12 I
  have b14 := bi_83 I
  have b15 := bi_12 I
  have b16 := bi_89 I
  refine z_aload_n X (x := A 0) rfl (List.Mem.tail _ (List.Mem.head _)) (z_aload_n X (x := q1) rfl (List.Mem.head _) (z_load X (x := i) rfl (List.Mem.tail _ (List.Mem.tail _ (List.Mem.tail _ (List.Mem.tail _ (List.Mem.head _))))) (z_const X rfl (z_add X rfl (z_sld X S hL rfl (show 0 ≤ (i + 1) ∧ (i + 1) < (L : Int) by first | exact sx_in hi (by decide) | omega) ?_)))))
  have sr17 : rng (sc xs (i + 1)) := sc_rng
  refine z_aload_n X (x := q1) rfl (List.Mem.head _) (z_load X (x := i) rfl (List.Mem.tail _ (List.Mem.tail _ (List.Mem.tail _ (List.Mem.tail _ (List.Mem.head _))))) (z_const X rfl (z_add X rfl (z_sld X S hL rfl (show 0 ≤ (i + 2) ∧ (i + 2) < (L : Int) by first | exact sx_in hi (by decide) | omega) ?_))))
  have sr18 : rng (sc xs (i + 2)) := sc_rng
  refine z_aload_n X (x := q1) rfl (List.Mem.head _) (z_load X (x := i) rfl (List.Mem.tail _ (List.Mem.tail _ (List.Mem.tail _ (List.Mem.tail _ (List.Mem.head _))))) (z_const X rfl (z_add X rfl (z_sld X S hL rfl (show 0 ≤ (i + 3) ∧ (i + 3) < (L : Int) by first | exact sx_in hi (by decide) | omega) ?_))))
  have sr19 : rng (sc xs (i + 3)) := sc_rng
  refine z_aload_n X (x := q1) rfl (List.Mem.head _) (z_load X (x := i) rfl (List.Mem.tail _ (List.Mem.tail _ (List.Mem.tail _ (List.Mem.tail _ (List.Mem.head _))))) (z_const X rfl (z_add X rfl (z_sld X S hL rfl (show 0 ≤ (i + 4) ∧ (i + 4) < (L : Int) by first | exact sx_in hi (by decide) | omega) ?_))))
  have sr20 : rng (sc xs (i + 4)) := sc_rng
  have N21 : ∀ e22 : Int, ((((sc xs (i + 4)) = 0) ∧ e22 = 0) ∨ (((sc xs (i + 4)) ≠ 0) ∧ e22 = 1)) → WS k 1592 [(0, .ref q1), (1, .ref (A 0)), (2, .ref (A 179)), (3, .ref (A 517)), (4, .int (Int32.ofInt i))] [.int (Int32.ofInt e22), .int (Int32.ofInt (sc xs (i + 3))), .int (Int32.ofInt (sc xs (i + 2))), .int (Int32.ofInt (sc xs (i + 1))), .ref (A 0)] (Wd A dT s) ce sl := by
    intro e22 he22
    have re22 : 0 ≤ e22 ∧ e22 ≤ 1 := by first | (clear he22; omega) | omega
    refine z_aload_n X (x := A 517) rfl (List.Mem.tail _ (List.Mem.tail _ (List.Mem.tail _ (List.Mem.head _)))) (z_callL X (rm := rmN 345) (As := [.ref (A 0), .int (Int32.ofInt (sc xs (i + 1))), .int (Int32.ofInt (sc xs (i + 2))), .int (Int32.ofInt (sc xs (i + 3))), .int (Int32.ofInt e22), .ref (A 517)]) (st := []) rfl (by decide) rfl (by rw [E.1, E.2.1, E.2.2.1]; exact lw_did2 G I (by first | (clear he22; omega) | omega) (by first | (clear he22; omega) | omega) (by first | (clear he22; omega) | omega) (by first | (clear he22; omega) | omega)) ⟨by rw [E.2.2.2]; exact (show 11 + 1 ≤ 2048 by decide), by rw [E.2.2.2]; exact (show 8 + (7 + 11) + 229 ≤ 84000 by decide), by rw [E.2.2.2]; exact (show ce + 3 ≤ 601024 by first | exact rmo_1 hce (by decide) | exact rmo_2 hce (by decide) | omega), by rw [E.2.2.2]; exact (show sl + 18 ≤ 7293034 by first | exact rmo_1 hsl (by decide) | exact rmo_2 hsl (by decide) | omega)⟩ (Nat.le_of_ble_eq_true rfl) (fun vv A s23 hA2 hq => ?_) (fun ee A s23 hA2 hq => ?_))
    rotate_left
    · obtain ⟨Is23, Fs23, e24, hv, hrs23, hps23⟩ := hq; cases hv
    obtain ⟨Is23, Fs23, e24, hv, hrs23, hps23⟩ := hq
    cases hv
    rw [← hA2 0 (by decide)]
    rw [← hA2 179 (by decide)]
    rw [← hA2 517 (by decide)]
    have JRLx_s23 : RLx s23 := RLx_fm Fs23 (by decide) jR
    have JFEQ_s23 : FEQ s23 := FEQ_fm Fs23 (by decide) jFEQ
    have JREQ_s23 : REQ 39 234 28 s23 := REQ_fm Fs23 (by decide) jREQ
    have JSEQ_s23 : SEQ s23 := SEQ_fm Fs23 (by decide) jSEQ
    have JARJ_s23 : ARJ s23 := ARJ_fm Fs23 ⟨by decide +kernel, by decide +kernel, by decide +kernel, by decide +kernel, by decide +kernel, by decide +kernel, by decide +kernel, by decide +kernel⟩ jARJ
    have JPTJ_s23 : PTJ s23 := PTJ_fm Fs23 (by decide +kernel) jPTJ
    have ws23_0 : iI s23 0 = iI s 0 := fm_iq Fs23 rfl
    have ws23_74 : iI s23 74 = iI s 74 := fm_iq Fs23 rfl
    have ws23_9 : iI s23 9 = iI s 9 := fm_iq Fs23 rfl
    have ws23_90 : iI s23 90 = iI s 90 := fm_iq Fs23 rfl
    have ws23_20 : iI s23 20 = iI s 20 := fm_iq Fs23 rfl
    have ws23_98 : iI s23 98 = iI s 98 := fm_iq Fs23 rfl
    have ws23_28 : iI s23 28 = iI s 28 := fm_iq Fs23 rfl
    have ws23_97 : iI s23 97 = iI s 97 := fm_iq Fs23 rfl
    have ws23_32 : iI s23 32 = iI s 32 := fm_iq Fs23 rfl
    have ws23_99 : iI s23 99 = iI s 99 := fm_iq Fs23 rfl
    have b25 := bi_70 Is23
    have ws23_107 : iI s23 107 = iI s 107 := fm_iq Fs23 rfl
    have ws23_12 : iI s23 12 = iI s 12 := fm_iq Fs23 rfl
    have ws23_83 : iI s23 83 = iI s 83 := fm_iq Fs23 rfl
    have ws23_12 : iI s23 12 = iI s 12 := fm_iq Fs23 rfl
    have ws23_89 : iI s23 89 = iI s 89 := fm_iq Fs23 rfl
    show WS k 1596 [(0, .ref q1), (1, .ref (A 0)), (2, .ref (A 179)), (3, .ref (A 517)), (4, .int (Int32.ofInt i))] [.int (Int32.ofInt e24)] (Wd A dT s23) (ce + 3) (sl + 18)
    refine z_store X (lv' := [(5, .int (Int32.ofInt e24)), (0, .ref q1), (1, .ref (A 0)), (2, .ref (A 179)), (3, .ref (A 517)), (4, .int (Int32.ofInt i))]) rfl (by decide) (fun _ h => h) (z_aload_n X (x := A 179) rfl (List.Mem.tail _ (List.Mem.tail _ (List.Mem.tail _ (List.Mem.head _)))) (z_aload_n X (x := q1) rfl (List.Mem.tail _ (List.Mem.head _)) (z_load X (x := i) rfl (List.Mem.tail _ (List.Mem.tail _ (List.Mem.tail _ (List.Mem.tail _ (List.Mem.tail _ (List.Mem.head _)))))) (z_const X rfl (z_add X rfl (z_sld X S hL rfl (show 0 ≤ (i + 1) ∧ (i + 1) < (L : Int) by first | exact sx_in hi (by decide) | omega) ?_))))))
    have sr26 : rng (sc xs (i + 1)) := sc_rng
    refine z_aload_n X (x := q1) rfl (List.Mem.tail _ (List.Mem.head _)) (z_load X (x := i) rfl (List.Mem.tail _ (List.Mem.tail _ (List.Mem.tail _ (List.Mem.tail _ (List.Mem.tail _ (List.Mem.head _)))))) (z_const X rfl (z_add X rfl (z_sld X S hL rfl (show 0 ≤ (i + 2) ∧ (i + 2) < (L : Int) by first | exact sx_in hi (by decide) | omega) ?_))))
    have sr27 : rng (sc xs (i + 2)) := sc_rng
    refine z_aload_n X (x := q1) rfl (List.Mem.tail _ (List.Mem.head _)) (z_load X (x := i) rfl (List.Mem.tail _ (List.Mem.tail _ (List.Mem.tail _ (List.Mem.tail _ (List.Mem.tail _ (List.Mem.head _)))))) (z_const X rfl (z_add X rfl (z_sld X S hL rfl (show 0 ≤ (i + 3) ∧ (i + 3) < (L : Int) by first | exact sx_in hi (by decide) | omega) ?_))))
    have sr28 : rng (sc xs (i + 3)) := sc_rng
    refine z_aload_n X (x := q1) rfl (List.Mem.tail _ (List.Mem.head _)) (z_load X (x := i) rfl (List.Mem.tail _ (List.Mem.tail _ (List.Mem.tail _ (List.Mem.tail _ (List.Mem.tail _ (List.Mem.head _)))))) (z_const X rfl (z_add X rfl (z_sld X S hL rfl (show 0 ≤ (i + 4) ∧ (i + 4) < (L : Int) by first | exact sx_in hi (by decide) | omega) ?_))))
    have sr29 : rng (sc xs (i + 4)) := sc_rng
    have N30 : ∀ e31 : Int, ((((sc xs (i + 4)) = 0) ∧ e31 = 0) ∨ (((sc xs (i + 4)) ≠ 0) ∧ e31 = 1)) → WS k 1631 [(5, .int (Int32.ofInt e24)), (0, .ref q1), (1, .ref (A 0)), (2, .ref (A 179)), (3, .ref (A 517)), (4, .int (Int32.ofInt i))] [.int (Int32.ofInt e31), .int (Int32.ofInt (sc xs (i + 3))), .int (Int32.ofInt (sc xs (i + 2))), .int (Int32.ofInt (sc xs (i + 1))), .ref (A 179)] (Wd A dT s23) (ce + 3) (sl + 18) := by
      intro e31 he31
      have re31 : 0 ≤ e31 ∧ e31 ≤ 1 := by first | (clear he31 hps23 he22; omega) | (clear hps23 he22; omega) | omega
      refine z_callV X 179 (rm := rmN 287) (As := [.int (Int32.ofInt (sc xs (i + 1))), .int (Int32.ofInt (sc xs (i + 2))), .int (Int32.ofInt (sc xs (i + 3))), .int (Int32.ofInt e31)]) (st := []) rfl rfl (by decide) rfl (by rw [E.1, E.2.1, E.2.2.1]; exact k_did2 G Is23 JRLx_s23 (by first | exact ⟨sr26.1, sr26.2⟩ | omega) (by first | exact ⟨sr27.1, sr27.2⟩ | omega) (by first | exact ⟨sr28.1, sr28.2⟩ | omega) (by first | exact oq_31e518ae re31.2 re31.1 | omega)) ⟨by rw [E.2.2.2]; exact (show 10 + 1 ≤ 2048 from oq_5655e407), by rw [E.2.2.2]; exact (show 8 + (6 + 11) + 189 ≤ 84000 from oq_f8649f31), by rw [E.2.2.2]; exact (show (ce + 3) + 0 ≤ 601024 by first | (clear he31 hps23 he22; omega) | (clear hps23 he22; omega) | omega), by rw [E.2.2.2]; exact (show (sl + 18) + 0 ≤ 7293034 by first | (clear he31 hps23 he22; omega) | (clear hps23 he22; omega) | omega)⟩ (Nat.le_of_ble_eq_true rfl) (fun vv s32 hq => ?_) (fun ee s32 hq => ?_)
      rotate_left
      · obtain ⟨Is32, Fs32, JRLx_s32, e33, hv, hrs32, hps32⟩ := hq; cases hv
      obtain ⟨Is32, Fs32, JRLx_s32, e33, hv, hrs32, hps32⟩ := hq
      cases hv
      have JRLx_s32 : RLx s32 := RLx_fm Fs32 (by decide) JRLx_s23
      have JFEQ_s32 : FEQ s32 := FEQ_fm Fs32 (by decide) JFEQ_s23
      have JREQ_s32 : REQ 39 234 28 s32 := REQ_fm Fs32 (by decide) JREQ_s23
      have JSEQ_s32 : SEQ s32 := SEQ_fm Fs32 (by decide) JSEQ_s23
      have JARJ_s32 : ARJ s32 := ARJ_fm Fs32 ⟨by decide +kernel, by decide +kernel, by decide +kernel, by decide +kernel, by decide +kernel, by decide +kernel, by decide +kernel, by decide +kernel⟩ JARJ_s23
      have JPTJ_s32 : PTJ s32 := PTJ_fm Fs32 (by decide +kernel) JPTJ_s23
      have ws32_0 : iI s32 0 = iI s23 0 := fm_iq Fs32 rfl
      have ws32_74 : iI s32 74 = iI s23 74 := fm_iq Fs32 rfl
      have ws32_9 : iI s32 9 = iI s23 9 := fm_iq Fs32 rfl
      have ws32_90 : iI s32 90 = iI s23 90 := fm_iq Fs32 rfl
      have ws32_20 : iI s32 20 = iI s23 20 := fm_iq Fs32 rfl
      have ws32_98 : iI s32 98 = iI s23 98 := fm_iq Fs32 rfl
      have ws32_28 : iI s32 28 = iI s23 28 := fm_iq Fs32 rfl
      have ws32_97 : iI s32 97 = iI s23 97 := fm_iq Fs32 rfl
      have ws32_32 : iI s32 32 = iI s23 32 := fm_iq Fs32 rfl
      have ws32_99 : iI s32 99 = iI s23 99 := fm_iq Fs32 rfl
      have ws32_70 : iI s32 70 = iI s23 70 := fm_iq Fs32 rfl
      have b34 := bi_107 Is32
      have ws32_12 : iI s32 12 = iI s23 12 := fm_iq Fs32 rfl
      have ws32_83 : iI s32 83 = iI s23 83 := fm_iq Fs32 rfl
      have ws32_12 : iI s32 12 = iI s23 12 := fm_iq Fs32 rfl
      have ws32_89 : iI s32 89 = iI s23 89 := fm_iq Fs32 rfl
      have wos32 : iO s32 = iO s23 := fm_o Fs32 (by decide)
      show WS k 1634 [(5, .int (Int32.ofInt e24)), (0, .ref q1), (1, .ref (A 0)), (2, .ref (A 179)), (3, .ref (A 517)), (4, .int (Int32.ofInt i))] [.int (Int32.ofInt e33)] (Wd A dT s32) (ce + 3) (sl + 18)
      refine z_store X (lv' := [(6, .int (Int32.ofInt e33)), (5, .int (Int32.ofInt e24)), (0, .ref q1), (1, .ref (A 0)), (2, .ref (A 179)), (3, .ref (A 517)), (4, .int (Int32.ofInt i))]) rfl (by decide) (fun _ h => h) (z_goto X (t := 1866) rfl rfl (w_widen (ce' := ce + 29) (sl' := sl + 222) (by first | exact Nat.le_add_right _ _ | exact Nat.add_le_add_left (by decide) _ | omega) (by first | exact Nat.le_add_right _ _ | exact Nat.add_le_add_left (by decide) _ | omega) ?_))
      exact WS_lv (lv := [(0, .ref q1), (1, .ref (A 0)), (2, .ref (A 179)), (3, .ref (A 517)), (4, .int (Int32.ofInt i))]) (List.forall_mem_cons.mpr ⟨(List.Mem.tail _ (List.Mem.tail _ (List.Mem.head _))), (List.forall_mem_cons.mpr ⟨(List.Mem.tail _ (List.Mem.tail _ (List.Mem.tail _ (List.Mem.head _)))), (List.forall_mem_cons.mpr ⟨(List.Mem.tail _ (List.Mem.tail _ (List.Mem.tail _ (List.Mem.tail _ (List.Mem.head _))))), (List.forall_mem_cons.mpr ⟨(List.Mem.tail _ (List.Mem.tail _ (List.Mem.tail _ (List.Mem.tail _ (List.Mem.tail _ (List.Mem.head _)))))), (List.forall_mem_cons.mpr ⟨(List.Mem.tail _ (List.Mem.tail _ (List.Mem.tail _ (List.Mem.tail _ (List.Mem.tail _ (List.Mem.tail _ (List.Mem.head _))))))), (fun q h => absurd h List.not_mem_nil)⟩)⟩)⟩)⟩)⟩) (hk A _ Is32 JRLx_s32 JFEQ_s32 JREQ_s32 JSEQ_s32 JARJ_s32 JPTJ_s32 (by first | exact oq_f34933ba ws32_89 ws23_89 p1 b16.1 | omega) (by first | exact oq_d7ce4408 ws32_12 ws23_12 p2 | omega) (by first | exact oq_5bcdc35f ws32_74 ws32_0 ws23_74 ws23_0 p3 | omega) (by first | exact oq_5bcdc35f ws32_90 ws32_9 ws23_90 ws23_9 p4 | omega) (by first | exact oq_5bcdc35f ws32_98 ws32_20 ws23_98 ws23_20 p5 | omega) (by first | exact oq_5bcdc35f ws32_97 ws32_28 ws23_97 ws23_28 p6 | omega) (by first | exact oq_5bcdc35f ws32_99 ws32_32 ws23_99 ws23_32 p7 | omega) (by first | exact oq_90882f71 b34.2 ws32_70 hps32 hps23 ws23_107 b25.2 p8 | omega) (by first | exact oq_5bc06b03 ws32_83 ws32_12 ws23_83 p9 ws23_12 | omega))
    refine z_if_eq X (t := 1630) rfl rfl ⟨by first | exact sr29.1 | omega, by first | exact sr29.2 | omega⟩ (fun g35 => ?_) (fun g35 => ?_)
    ·
      exact z_const X rfl (N30 _ (Or.inl ⟨g35, rfl⟩))
    ·
      exact z_const X rfl (z_goto X (t := 1631) rfl rfl (N30 _ (Or.inr (⟨g35, rfl⟩))))
  refine z_if_eq X (t := 1591) rfl rfl ⟨by first | exact sr20.1 | omega, by first | exact sr20.2 | omega⟩ (fun g36 => ?_) (fun g36 => ?_)
  ·
    exact z_const X rfl (N21 _ (Or.inl ⟨g36, rfl⟩))
  ·
    exact z_const X rfl (z_goto X (t := 1592) rfl rfl (N21 _ (Or.inr (⟨g36, rfl⟩))))
theorem lc_37 (G : GX l s0 D tys a0 dT) (GR : RS0 s0) (SF : SF0 s0) (GT : TXs0 s0) (GW : TXw0 s0) {k : kx_T} (X : AX k 350 dT) (E : kL k = l ∧ kS0 k = s0 ∧ kD k = D ∧ kR k = room_1) {q1 L : Nat} {xs : Nat → Int32} (S : SX k q1 L xs) (hL : L ≤ 3072) (I : Bd s) (jR : RLx s) (jFEQ : FEQ s) (jREQ : REQ 39 234 28 s) (jSEQ : SEQ s) (jARJ : ARJ s) (jPTJ : PTJ s) (p1 : iI s 89 = 1) (p2 : iI s 12 ≤ 8) (p3 : iI s 0 = iI s 74) (p4 : iI s 9 = iI s 90) (p5 : iI s 20 = iI s 98) (p6 : iI s 28 = iI s 97) (p7 : iI s 32 = iI s 99) (p8 : iI s 70 = iI s 107) (p9 : iI s 12 = iI s 83) {i : Int} (hi : 0 ≤ i ∧ i + 6 ≤ (L : Int)) {ce sl : Nat} (hce : ce + 29 ≤ 601024) (hsl : sl + 222 ≤ 7293034) (hk : ∀ (A : Nat → Nat) (t : PS), Bd t → RLx t → FEQ t → REQ 39 234 28 t → SEQ t → ARJ t → PTJ t → iI t 89 = 1 → iI t 12 ≤ 8 → iI t 0 = iI t 74 → iI t 9 = iI t 90 → iI t 20 = iI t 98 → iI t 28 = iI t 97 → iI t 32 = iI t 99 → iI t 70 = iI t 107 → iI t 12 = iI t 83 → WS k 1866 [(0, .ref q1), (1, .ref (A 0)), (2, .ref (A 179)), (3, .ref (A 517)), (4, .int (Int32.ofInt i))] [] (Wd A dT t) (ce + 29) (sl + 222)) : WS k 1639 [(0, .ref q1), (1, .ref (A 0)), (2, .ref (A 179)), (3, .ref (A 517)), (4, .int (Int32.ofInt i))] [] (Wd A dT s) ce sl := by
  have F : Fm [71, 72, 73] [156, 155, 1460] s s := fm_rf _ _ s
  have b1 := bi_0 I
  have b2 := bi_74 I
  have b3 := bi_9 I
  have b4 := bi_90 I
  have b5 := bi_20 I
  have b6 := bi_98 I
  have b7 := bi_28 I
  have b8 := bi_97 I
  have b9 := bi_32 I
  have b10 := bi_99 I
  have b11 := bi_70 I
  have b12 := bi_107 I
  have b13 := bi_12 I
  have b14 := bi_83 I
  have b15 := bi_12 I
  have b16 := bi_89 I
  refine z_aload_n X (x := A 0) rfl (List.Mem.tail _ (List.Mem.head _)) (z_aload_n X (x := q1) rfl (List.Mem.head _) (z_load X (x := i) rfl (List.Mem.tail _ (List.Mem.tail _ (List.Mem.tail _ (List.Mem.tail _ (List.Mem.head _))))) (z_const X rfl (z_add X rfl (z_sld X S hL rfl (show 0 ≤ (i + 1) ∧ (i + 1) < (L : Int) by first | exact sx_in hi (by decide) | omega) ?_)))))
  have sr17 : rng (sc xs (i + 1)) := sc_rng
  refine z_aload_n X (x := A 517) rfl (List.Mem.tail _ (List.Mem.tail _ (List.Mem.tail _ (List.Mem.head _)))) (z_callL X (rm := rmN 346) (As := [.ref (A 0), .int (Int32.ofInt (sc xs (i + 1))), .ref (A 517)]) (st := []) rfl (by decide) rfl (by rw [E.1, E.2.1, E.2.2.1]; exact lw_fit G I (by omega)) ⟨by rw [E.2.2.2]; exact (show 10 + 1 ≤ 2048 by decide), by rw [E.2.2.2]; exact (show 8 + (4 + 11) + 190 ≤ 84000 by decide), by rw [E.2.2.2]; exact (show ce + 1 ≤ 601024 by first | exact rmo_1 hce (by decide) | exact rmo_2 hce (by decide) | omega), by rw [E.2.2.2]; exact (show sl + 6 ≤ 7293034 by first | exact rmo_1 hsl (by decide) | exact rmo_2 hsl (by decide) | omega)⟩ (Nat.le_of_ble_eq_true rfl) (fun vv A s18 hA2 hq => ?_) (fun ee A s18 hA2 hq => ?_))
  rotate_left
  · obtain ⟨Is18, Fs18, e19, hv, hrs18, hps18⟩ := hq; cases hv
  obtain ⟨Is18, Fs18, e19, hv, hrs18, hps18⟩ := hq
  cases hv
  rw [← hA2 0 (by decide)]
  rw [← hA2 179 (by decide)]
  rw [← hA2 517 (by decide)]
  have JRLx_s18 : RLx s18 := RLx_fm Fs18 (by decide) jR
  have JFEQ_s18 : FEQ s18 := FEQ_fm Fs18 (by decide) jFEQ
  have JREQ_s18 : REQ 39 234 28 s18 := REQ_fm Fs18 (by decide) jREQ
  have JSEQ_s18 : SEQ s18 := SEQ_fm Fs18 (by decide) jSEQ
  have JARJ_s18 : ARJ s18 := ARJ_fm Fs18 ⟨by decide +kernel, by decide +kernel, by decide +kernel, by decide +kernel, by decide +kernel, by decide +kernel, by decide +kernel, by decide +kernel⟩ jARJ
  have JPTJ_s18 : PTJ s18 := PTJ_fm Fs18 (by decide +kernel) jPTJ
  have ws18_0 : iI s18 0 = iI s 0 := fm_iq Fs18 rfl
  have ws18_74 : iI s18 74 = iI s 74 := fm_iq Fs18 rfl
  have ws18_9 : iI s18 9 = iI s 9 := fm_iq Fs18 rfl
  have ws18_90 : iI s18 90 = iI s 90 := fm_iq Fs18 rfl
  have ws18_20 : iI s18 20 = iI s 20 := fm_iq Fs18 rfl
  have ws18_98 : iI s18 98 = iI s 98 := fm_iq Fs18 rfl
  have ws18_28 : iI s18 28 = iI s 28 := fm_iq Fs18 rfl
  have ws18_97 : iI s18 97 = iI s 97 := fm_iq Fs18 rfl
  have ws18_32 : iI s18 32 = iI s 32 := fm_iq Fs18 rfl
  have ws18_99 : iI s18 99 = iI s 99 := fm_iq Fs18 rfl
  have ws18_70 : iI s18 70 = iI s 70 := fm_iq Fs18 rfl
  have ws18_107 : iI s18 107 = iI s 107 := fm_iq Fs18 rfl
  have ws18_12 : iI s18 12 = iI s 12 := fm_iq Fs18 rfl
  have ws18_83 : iI s18 83 = iI s 83 := fm_iq Fs18 rfl
  have ws18_12 : iI s18 12 = iI s 12 := fm_iq Fs18 rfl
  have ws18_89 : iI s18 89 = iI s 89 := fm_iq Fs18 rfl
  show WS k 1650 [(0, .ref q1), (1, .ref (A 0)), (2, .ref (A 179)), (3, .ref (A 517)), (4, .int (Int32.ofInt i))] [.int (Int32.ofInt e19)] (Wd A dT s18) (ce + 1) (sl + 6)
  refine z_store X (lv' := [(5, .int (Int32.ofInt e19)), (0, .ref q1), (1, .ref (A 0)), (2, .ref (A 179)), (3, .ref (A 517)), (4, .int (Int32.ofInt i))]) rfl (by decide) (fun _ h => h) (z_aload_n X (x := A 179) rfl (List.Mem.tail _ (List.Mem.tail _ (List.Mem.tail _ (List.Mem.head _)))) (z_aload_n X (x := q1) rfl (List.Mem.tail _ (List.Mem.head _)) (z_load X (x := i) rfl (List.Mem.tail _ (List.Mem.tail _ (List.Mem.tail _ (List.Mem.tail _ (List.Mem.tail _ (List.Mem.head _)))))) (z_const X rfl (z_add X rfl (z_sld X S hL rfl (show 0 ≤ (i + 1) ∧ (i + 1) < (L : Int) by first | exact sx_in hi (by decide) | omega) ?_))))))
  have sr20 : rng (sc xs (i + 1)) := sc_rng
  refine z_callV X 179 (rm := rmN 289) (As := [.int (Int32.ofInt (sc xs (i + 1)))]) (st := []) rfl rfl (by decide) rfl (by rw [E.1, E.2.1, E.2.2.1]; exact k_fit G Is18 (by first | exact ⟨sr20.1, sr20.2⟩ | omega)) ⟨by rw [E.2.2.2]; exact (show 8 + 1 ≤ 2048 from oq_5bf2829b), by rw [E.2.2.2]; exact (show 8 + (7 + 11) + 145 ≤ 84000 from oq_8fd475f0), by rw [E.2.2.2]; exact (show (ce + 1) + 0 ≤ 601024 by omega), by rw [E.2.2.2]; exact (show (sl + 6) + 0 ≤ 7293034 by omega)⟩ (Nat.le_of_ble_eq_true rfl) (fun vv s21 hq => ?_) (fun ee s21 hq => ?_)
  rotate_left
  · obtain ⟨Is21, Fs21, e22, hv, hrs21, hps21⟩ := hq; cases hv
  obtain ⟨Is21, Fs21, e22, hv, hrs21, hps21⟩ := hq
  cases hv
  have JRLx_s21 : RLx s21 := RLx_fm Fs21 (by decide) JRLx_s18
  have JFEQ_s21 : FEQ s21 := FEQ_fm Fs21 (by decide) JFEQ_s18
  have JREQ_s21 : REQ 39 234 28 s21 := REQ_fm Fs21 (by decide) JREQ_s18
  have JSEQ_s21 : SEQ s21 := SEQ_fm Fs21 (by decide) JSEQ_s18
  have JARJ_s21 : ARJ s21 := ARJ_fm Fs21 ⟨by decide +kernel, by decide +kernel, by decide +kernel, by decide +kernel, by decide +kernel, by decide +kernel, by decide +kernel, by decide +kernel⟩ JARJ_s18
  have JPTJ_s21 : PTJ s21 := PTJ_fm Fs21 (by decide +kernel) JPTJ_s18
  have ws21_0 : iI s21 0 = iI s18 0 := fm_iq Fs21 rfl
  have ws21_74 : iI s21 74 = iI s18 74 := fm_iq Fs21 rfl
  have ws21_9 : iI s21 9 = iI s18 9 := fm_iq Fs21 rfl
  have ws21_90 : iI s21 90 = iI s18 90 := fm_iq Fs21 rfl
  have ws21_20 : iI s21 20 = iI s18 20 := fm_iq Fs21 rfl
  have ws21_98 : iI s21 98 = iI s18 98 := fm_iq Fs21 rfl
  have ws21_28 : iI s21 28 = iI s18 28 := fm_iq Fs21 rfl
  have ws21_97 : iI s21 97 = iI s18 97 := fm_iq Fs21 rfl
  have ws21_32 : iI s21 32 = iI s18 32 := fm_iq Fs21 rfl
  have ws21_99 : iI s21 99 = iI s18 99 := fm_iq Fs21 rfl
  have ws21_70 : iI s21 70 = iI s18 70 := fm_iq Fs21 rfl
  have ws21_107 : iI s21 107 = iI s18 107 := fm_iq Fs21 rfl
  have ws21_12 : iI s21 12 = iI s18 12 := fm_iq Fs21 rfl
  have ws21_83 : iI s21 83 = iI s18 83 := fm_iq Fs21 rfl
  have ws21_12 : iI s21 12 = iI s18 12 := fm_iq Fs21 rfl
  have ws21_89 : iI s21 89 = iI s18 89 := fm_iq Fs21 rfl
  have wos21 : iO s21 = iO s18 := fm_o Fs21 (by decide)
  show WS k 1662 [(5, .int (Int32.ofInt e19)), (0, .ref q1), (1, .ref (A 0)), (2, .ref (A 179)), (3, .ref (A 517)), (4, .int (Int32.ofInt i))] [.int (Int32.ofInt e22)] (Wd A dT s21) (ce + 1) (sl + 6)
  refine z_store X (lv' := [(6, .int (Int32.ofInt e22)), (5, .int (Int32.ofInt e19)), (0, .ref q1), (1, .ref (A 0)), (2, .ref (A 179)), (3, .ref (A 517)), (4, .int (Int32.ofInt i))]) rfl (by decide) (fun _ h => h) (z_goto X (t := 1866) rfl rfl (w_widen (ce' := ce + 29) (sl' := sl + 222) (by first | exact Nat.le_add_right _ _ | exact Nat.add_le_add_left (by decide) _ | omega) (by first | exact Nat.le_add_right _ _ | exact Nat.add_le_add_left (by decide) _ | omega) ?_))
  exact WS_lv (lv := [(0, .ref q1), (1, .ref (A 0)), (2, .ref (A 179)), (3, .ref (A 517)), (4, .int (Int32.ofInt i))]) (List.forall_mem_cons.mpr ⟨(List.Mem.tail _ (List.Mem.tail _ (List.Mem.head _))), (List.forall_mem_cons.mpr ⟨(List.Mem.tail _ (List.Mem.tail _ (List.Mem.tail _ (List.Mem.head _)))), (List.forall_mem_cons.mpr ⟨(List.Mem.tail _ (List.Mem.tail _ (List.Mem.tail _ (List.Mem.tail _ (List.Mem.head _))))), (List.forall_mem_cons.mpr ⟨(List.Mem.tail _ (List.Mem.tail _ (List.Mem.tail _ (List.Mem.tail _ (List.Mem.tail _ (List.Mem.head _)))))), (List.forall_mem_cons.mpr ⟨(List.Mem.tail _ (List.Mem.tail _ (List.Mem.tail _ (List.Mem.tail _ (List.Mem.tail _ (List.Mem.tail _ (List.Mem.head _))))))), (fun q h => absurd h List.not_mem_nil)⟩)⟩)⟩)⟩)⟩) (hk A _ Is21 JRLx_s21 JFEQ_s21 JREQ_s21 JSEQ_s21 JARJ_s21 JPTJ_s21 (by first | exact oq_f34933ba ws21_89 ws18_89 p1 b16.1 | omega) (by first | exact oq_d7ce4408 ws21_12 ws18_12 p2 | omega) (by first | exact oq_5bcdc35f ws21_74 ws21_0 ws18_74 ws18_0 p3 | omega) (by first | exact oq_5bcdc35f ws21_90 ws21_9 ws18_90 ws18_9 p4 | omega) (by first | exact oq_5bcdc35f ws21_98 ws21_20 ws18_98 ws18_20 p5 | omega) (by first | exact oq_5bcdc35f ws21_97 ws21_28 ws18_97 ws18_28 p6 | omega) (by first | exact oq_5bcdc35f ws21_99 ws21_32 ws18_99 ws18_32 p7 | omega) (by first | exact oq_5bcdc35f ws21_107 ws21_70 ws18_107 ws18_70 p8 | omega) (by first | exact oq_5bc06b03 ws21_83 ws21_12 ws18_83 p9 ws18_12 | omega))
theorem lc_38 (G : GX l s0 D tys a0 dT) (GR : RS0 s0) (SF : SF0 s0) (GT : TXs0 s0) (GW : TXw0 s0) {k : kx_T} (X : AX k 350 dT) (E : kL k = l ∧ kS0 k = s0 ∧ kD k = D ∧ kR k = room_1) {q1 L : Nat} {xs : Nat → Int32} (S : SX k q1 L xs) (hL : L ≤ 3072) (I : Bd s) (jR : RLx s) (jFEQ : FEQ s) (jREQ : REQ 39 234 28 s) (jSEQ : SEQ s) (jARJ : ARJ s) (jPTJ : PTJ s) (p1 : iI s 89 = 1) (p2 : iI s 12 ≤ 8) (p3 : iI s 0 = iI s 74) (p4 : iI s 9 = iI s 90) (p5 : iI s 20 = iI s 98) (p6 : iI s 28 = iI s 97) (p7 : iI s 32 = iI s 99) (p8 : iI s 70 = iI s 107) (p9 : iI s 12 = iI s 83) {i : Int} (hi : 0 ≤ i ∧ i + 6 ≤ (L : Int)) {ce sl : Nat} (hce : ce + 29 ≤ 601024) (hsl : sl + 222 ≤ 7293034) (hk : ∀ (A : Nat → Nat) (t : PS), Bd t → RLx t → FEQ t → REQ 39 234 28 t → SEQ t → ARJ t → PTJ t → iI t 89 = 1 → iI t 12 ≤ 8 → iI t 0 = iI t 74 → iI t 9 = iI t 90 → iI t 20 = iI t 98 → iI t 28 = iI t 97 → iI t 32 = iI t 99 → iI t 70 = iI t 107 → iI t 12 = iI t 83 → WS k 1866 [(0, .ref q1), (1, .ref (A 0)), (2, .ref (A 179)), (3, .ref (A 517)), (4, .int (Int32.ofInt i))] [] (Wd A dT t) (ce + 29) (sl + 222)) : WS k 1667 [(0, .ref q1), (1, .ref (A 0)), (2, .ref (A 179)), (3, .ref (A 517)), (4, .int (Int32.ofInt i))] [] (Wd A dT s) ce sl := by
  have F : Fm [22, 23, 73, 77, 75, 78, 79, 80, 81] [33, 26, 27, 28, 29, 30, 31, 32, 20, 34, 1460, 202, 204, 205, 206, 207, 208, 209, 210, 211, 212, 213, 214, 215, 216, 217, 218, 219, 220, 221, 222, 223, 224, 225, 226, 227, 203, 161, 230] s s := fm_rf _ _ s
  have b1 := bi_0 I
  have b2 := bi_74 I
  have b3 := bi_9 I
  have b4 := bi_90 I
  have b5 := bi_20 I
  have b6 := bi_98 I
  have b7 := bi_28 I
  have b8 := bi_97 I
  have b9 := bi_32 I
  have b10 := bi_99 I
  have b11 := bi_70 I
  have b12 := bi_107 I
  have b13 := bi_12 I
  have b14 := bi_83 I
  have b15 := bi_12 I
  have b16 := bi_89 I
  refine z_aload_n X (x := A 0) rfl (List.Mem.tail _ (List.Mem.head _)) (z_aload_n X (x := q1) rfl (List.Mem.head _) (z_load X (x := i) rfl (List.Mem.tail _ (List.Mem.tail _ (List.Mem.tail _ (List.Mem.tail _ (List.Mem.head _))))) (z_const X rfl (z_add X rfl (z_sld X S hL rfl (show 0 ≤ (i + 1) ∧ (i + 1) < (L : Int) by first | exact sx_in hi (by decide) | omega) ?_)))))
  have sr17 : rng (sc xs (i + 1)) := sc_rng
  refine z_aload_n X (x := q1) rfl (List.Mem.head _) (z_load X (x := i) rfl (List.Mem.tail _ (List.Mem.tail _ (List.Mem.tail _ (List.Mem.tail _ (List.Mem.head _))))) (z_const X rfl (z_add X rfl (z_sld X S hL rfl (show 0 ≤ (i + 2) ∧ (i + 2) < (L : Int) by first | exact sx_in hi (by decide) | omega) ?_))))
  have sr18 : rng (sc xs (i + 2)) := sc_rng
  refine z_aload_n X (x := q1) rfl (List.Mem.head _) (z_load X (x := i) rfl (List.Mem.tail _ (List.Mem.tail _ (List.Mem.tail _ (List.Mem.tail _ (List.Mem.head _))))) (z_const X rfl (z_add X rfl (z_sld X S hL rfl (show 0 ≤ (i + 3) ∧ (i + 3) < (L : Int) by first | exact sx_in hi (by decide) | omega) ?_))))
  have sr19 : rng (sc xs (i + 3)) := sc_rng
  refine z_aload_n X (x := q1) rfl (List.Mem.head _) (z_load X (x := i) rfl (List.Mem.tail _ (List.Mem.tail _ (List.Mem.tail _ (List.Mem.tail _ (List.Mem.head _))))) (z_const X rfl (z_add X rfl (z_sld X S hL rfl (show 0 ≤ (i + 4) ∧ (i + 4) < (L : Int) by first | exact sx_in hi (by decide) | omega) ?_))))
  have sr20 : rng (sc xs (i + 4)) := sc_rng
  have N21 : ∀ e22 : Int, ((((sc xs (i + 4)) = 0) ∧ e22 = 0) ∨ (((sc xs (i + 4)) ≠ 0) ∧ e22 = 1)) → WS k 1700 [(0, .ref q1), (1, .ref (A 0)), (2, .ref (A 179)), (3, .ref (A 517)), (4, .int (Int32.ofInt i))] [.int (Int32.ofInt e22), .int (Int32.ofInt (sc xs (i + 3))), .int (Int32.ofInt (sc xs (i + 2))), .int (Int32.ofInt (sc xs (i + 1))), .ref (A 0)] (Wd A dT s) ce sl := by
    intro e22 he22
    have re22 : 0 ≤ e22 ∧ e22 ≤ 1 := by first | (clear he22; omega) | omega
    refine z_aload_n X (x := A 517) rfl (List.Mem.tail _ (List.Mem.tail _ (List.Mem.tail _ (List.Mem.head _)))) (z_callL X (rm := rmN 347) (As := [.ref (A 0), .int (Int32.ofInt (sc xs (i + 1))), .int (Int32.ofInt (sc xs (i + 2))), .int (Int32.ofInt (sc xs (i + 3))), .int (Int32.ofInt e22), .ref (A 517)]) (st := []) rfl (by decide) rfl (by rw [E.1, E.2.1, E.2.2.1]; exact lw_lead G I (by first | (clear he22; omega) | omega) (by first | (clear he22; omega) | omega) (by first | (clear he22; omega) | omega) (by first | (clear he22; omega) | omega)) ⟨by rw [E.2.2.2]; exact (show 11 + 1 ≤ 2048 by decide), by rw [E.2.2.2]; exact (show 8 + (7 + 11) + 230 ≤ 84000 by decide), by rw [E.2.2.2]; exact (show ce + 2 ≤ 601024 by first | exact rmo_1 hce (by decide) | exact rmo_2 hce (by decide) | omega), by rw [E.2.2.2]; exact (show sl + 12 ≤ 7293034 by first | exact rmo_1 hsl (by decide) | exact rmo_2 hsl (by decide) | omega)⟩ (Nat.le_of_ble_eq_true rfl) (fun vv A s23 hA2 hq => ?_) (fun ee A s23 hA2 hq => ?_))
    rotate_left
    · obtain ⟨Is23, Fs23, e24, hv, hrs23, hps23⟩ := hq; cases hv
    obtain ⟨Is23, Fs23, e24, hv, hrs23, hps23⟩ := hq
    cases hv
    rw [← hA2 0 (by decide)]
    rw [← hA2 179 (by decide)]
    rw [← hA2 517 (by decide)]
    have JRLx_s23 : RLx s23 := RLx_fm Fs23 (by decide) jR
    have JFEQ_s23 : FEQ s23 := FEQ_fm Fs23 (by decide) jFEQ
    have JREQ_s23 : REQ 39 234 28 s23 := REQ_fm Fs23 (by decide) jREQ
    have JSEQ_s23 : SEQ s23 := SEQ_fm Fs23 (by decide) jSEQ
    have JARJ_s23 : ARJ s23 := ARJ_fm Fs23 ⟨by decide +kernel, by decide +kernel, by decide +kernel, by decide +kernel, by decide +kernel, by decide +kernel, by decide +kernel, by decide +kernel⟩ jARJ
    have JPTJ_s23 : PTJ s23 := PTJ_fm Fs23 (by decide +kernel) jPTJ
    have ws23_0 : iI s23 0 = iI s 0 := fm_iq Fs23 rfl
    have ws23_74 : iI s23 74 = iI s 74 := fm_iq Fs23 rfl
    have ws23_9 : iI s23 9 = iI s 9 := fm_iq Fs23 rfl
    have ws23_90 : iI s23 90 = iI s 90 := fm_iq Fs23 rfl
    have ws23_20 : iI s23 20 = iI s 20 := fm_iq Fs23 rfl
    have ws23_98 : iI s23 98 = iI s 98 := fm_iq Fs23 rfl
    have ws23_28 : iI s23 28 = iI s 28 := fm_iq Fs23 rfl
    have ws23_97 : iI s23 97 = iI s 97 := fm_iq Fs23 rfl
    have ws23_32 : iI s23 32 = iI s 32 := fm_iq Fs23 rfl
    have ws23_99 : iI s23 99 = iI s 99 := fm_iq Fs23 rfl
    have ws23_70 : iI s23 70 = iI s 70 := fm_iq Fs23 rfl
    have ws23_107 : iI s23 107 = iI s 107 := fm_iq Fs23 rfl
    have ws23_12 : iI s23 12 = iI s 12 := fm_iq Fs23 rfl
    have ws23_83 : iI s23 83 = iI s 83 := fm_iq Fs23 rfl
    have ws23_12 : iI s23 12 = iI s 12 := fm_iq Fs23 rfl
    have ws23_89 : iI s23 89 = iI s 89 := fm_iq Fs23 rfl
    show WS k 1704 [(0, .ref q1), (1, .ref (A 0)), (2, .ref (A 179)), (3, .ref (A 517)), (4, .int (Int32.ofInt i))] [.int (Int32.ofInt e24)] (Wd A dT s23) (ce + 2) (sl + 12)
    refine z_store X (lv' := [(5, .int (Int32.ofInt e24)), (0, .ref q1), (1, .ref (A 0)), (2, .ref (A 179)), (3, .ref (A 517)), (4, .int (Int32.ofInt i))]) rfl (by decide) (fun _ h => h) (z_aload_n X (x := A 179) rfl (List.Mem.tail _ (List.Mem.tail _ (List.Mem.tail _ (List.Mem.head _)))) (z_aload_n X (x := q1) rfl (List.Mem.tail _ (List.Mem.head _)) (z_load X (x := i) rfl (List.Mem.tail _ (List.Mem.tail _ (List.Mem.tail _ (List.Mem.tail _ (List.Mem.tail _ (List.Mem.head _)))))) (z_const X rfl (z_add X rfl (z_sld X S hL rfl (show 0 ≤ (i + 1) ∧ (i + 1) < (L : Int) by first | exact sx_in hi (by decide) | omega) ?_))))))
    have sr25 : rng (sc xs (i + 1)) := sc_rng
    refine z_aload_n X (x := q1) rfl (List.Mem.tail _ (List.Mem.head _)) (z_load X (x := i) rfl (List.Mem.tail _ (List.Mem.tail _ (List.Mem.tail _ (List.Mem.tail _ (List.Mem.tail _ (List.Mem.head _)))))) (z_const X rfl (z_add X rfl (z_sld X S hL rfl (show 0 ≤ (i + 2) ∧ (i + 2) < (L : Int) by first | exact sx_in hi (by decide) | omega) ?_))))
    have sr26 : rng (sc xs (i + 2)) := sc_rng
    refine z_aload_n X (x := q1) rfl (List.Mem.tail _ (List.Mem.head _)) (z_load X (x := i) rfl (List.Mem.tail _ (List.Mem.tail _ (List.Mem.tail _ (List.Mem.tail _ (List.Mem.tail _ (List.Mem.head _)))))) (z_const X rfl (z_add X rfl (z_sld X S hL rfl (show 0 ≤ (i + 3) ∧ (i + 3) < (L : Int) by first | exact sx_in hi (by decide) | omega) ?_))))
    have sr27 : rng (sc xs (i + 3)) := sc_rng
    refine z_aload_n X (x := q1) rfl (List.Mem.tail _ (List.Mem.head _)) (z_load X (x := i) rfl (List.Mem.tail _ (List.Mem.tail _ (List.Mem.tail _ (List.Mem.tail _ (List.Mem.tail _ (List.Mem.head _)))))) (z_const X rfl (z_add X rfl (z_sld X S hL rfl (show 0 ≤ (i + 4) ∧ (i + 4) < (L : Int) by first | exact sx_in hi (by decide) | omega) ?_))))
    have sr28 : rng (sc xs (i + 4)) := sc_rng
    have N29 : ∀ e30 : Int, ((((sc xs (i + 4)) = 0) ∧ e30 = 0) ∨ (((sc xs (i + 4)) ≠ 0) ∧ e30 = 1)) → WS k 1739 [(5, .int (Int32.ofInt e24)), (0, .ref q1), (1, .ref (A 0)), (2, .ref (A 179)), (3, .ref (A 517)), (4, .int (Int32.ofInt i))] [.int (Int32.ofInt e30), .int (Int32.ofInt (sc xs (i + 3))), .int (Int32.ofInt (sc xs (i + 2))), .int (Int32.ofInt (sc xs (i + 1))), .ref (A 179)] (Wd A dT s23) (ce + 2) (sl + 12) := by
      intro e30 he30
      have re30 : 0 ≤ e30 ∧ e30 ≤ 1 := by first | (clear he30 he22; omega) | (clear he22; omega) | omega
      refine z_callV X 179 (rm := rmN 290) (As := [.int (Int32.ofInt (sc xs (i + 1))), .int (Int32.ofInt (sc xs (i + 2))), .int (Int32.ofInt (sc xs (i + 3))), .int (Int32.ofInt e30)]) (st := []) rfl rfl (by decide) rfl (by rw [E.1, E.2.1, E.2.2.1]; exact k_lead G Is23 JRLx_s23 (by first | exact ⟨sr25.1, sr25.2⟩ | omega) (by first | exact ⟨sr26.1, sr26.2⟩ | omega) (by first | exact ⟨sr27.1, sr27.2⟩ | omega) (by first | exact oq_31e518ae re30.2 re30.1 | omega)) ⟨by rw [E.2.2.2]; exact (show 37 + 1 ≤ 2048 from oq_2596b3cb), by rw [E.2.2.2]; exact (show 8 + (10 + 11) + 1578 ≤ 84000 from oq_d572abc1), by rw [E.2.2.2]; exact (show (ce + 2) + 1 ≤ 601024 by first | (clear he30 he22; omega) | (clear he22; omega) | omega), by rw [E.2.2.2]; exact (show (sl + 12) + 12 ≤ 7293034 by first | (clear he30 he22; omega) | (clear he22; omega) | omega)⟩ (Nat.le_of_ble_eq_true rfl) (fun vv s31 hq => ?_) (fun ee s31 hq => ?_)
      rotate_left
      · obtain ⟨Is31, Fs31, JRLx_s31, e32, hv, hrs31, hps31⟩ := hq; cases hv
      obtain ⟨Is31, Fs31, JRLx_s31, e32, hv, hrs31, hps31⟩ := hq
      cases hv
      have JRLx_s31 : RLx s31 := RLx_fm Fs31 (by decide) JRLx_s23
      have JFEQ_s31 : FEQ s31 := FEQ_fm Fs31 (by decide) JFEQ_s23
      have JREQ_s31 : REQ 39 234 28 s31 := REQ_fm Fs31 (by decide) JREQ_s23
      have JSEQ_s31 : SEQ s31 := SEQ_fm Fs31 (by decide) JSEQ_s23
      have JARJ_s31 : ARJ s31 := ARJ_fm Fs31 ⟨by decide +kernel, by decide +kernel, by decide +kernel, by decide +kernel, by decide +kernel, by decide +kernel, by decide +kernel, by decide +kernel⟩ JARJ_s23
      have JPTJ_s31 : PTJ s31 := PTJ_fm Fs31 (by decide +kernel) JPTJ_s23
      have ws31_0 : iI s31 0 = iI s23 0 := fm_iq Fs31 rfl
      have ws31_74 : iI s31 74 = iI s23 74 := fm_iq Fs31 rfl
      have ws31_9 : iI s31 9 = iI s23 9 := fm_iq Fs31 rfl
      have ws31_90 : iI s31 90 = iI s23 90 := fm_iq Fs31 rfl
      have ws31_20 : iI s31 20 = iI s23 20 := fm_iq Fs31 rfl
      have ws31_98 : iI s31 98 = iI s23 98 := fm_iq Fs31 rfl
      have ws31_28 : iI s31 28 = iI s23 28 := fm_iq Fs31 rfl
      have ws31_97 : iI s31 97 = iI s23 97 := fm_iq Fs31 rfl
      have ws31_32 : iI s31 32 = iI s23 32 := fm_iq Fs31 rfl
      have ws31_99 : iI s31 99 = iI s23 99 := fm_iq Fs31 rfl
      have ws31_70 : iI s31 70 = iI s23 70 := fm_iq Fs31 rfl
      have ws31_107 : iI s31 107 = iI s23 107 := fm_iq Fs31 rfl
      have ws31_12 : iI s31 12 = iI s23 12 := fm_iq Fs31 rfl
      have ws31_83 : iI s31 83 = iI s23 83 := fm_iq Fs31 rfl
      have ws31_12 : iI s31 12 = iI s23 12 := fm_iq Fs31 rfl
      have ws31_89 : iI s31 89 = iI s23 89 := fm_iq Fs31 rfl
      have wos31 : iO s31 = iO s23 := fm_o Fs31 (by decide)
      show WS k 1742 [(5, .int (Int32.ofInt e24)), (0, .ref q1), (1, .ref (A 0)), (2, .ref (A 179)), (3, .ref (A 517)), (4, .int (Int32.ofInt i))] [.int (Int32.ofInt e32)] (Wd A dT s31) ((ce + 2) + 1) ((sl + 12) + 12)
      refine z_store X (lv' := [(6, .int (Int32.ofInt e32)), (5, .int (Int32.ofInt e24)), (0, .ref q1), (1, .ref (A 0)), (2, .ref (A 179)), (3, .ref (A 517)), (4, .int (Int32.ofInt i))]) rfl (by decide) (fun _ h => h) (z_goto X (t := 1866) rfl rfl (w_widen (ce' := ce + 29) (sl' := sl + 222) (by first | exact Nat.le_add_right _ _ | exact Nat.add_le_add_left (by decide) _ | omega) (by first | exact Nat.le_add_right _ _ | exact Nat.add_le_add_left (by decide) _ | omega) ?_))
      exact WS_lv (lv := [(0, .ref q1), (1, .ref (A 0)), (2, .ref (A 179)), (3, .ref (A 517)), (4, .int (Int32.ofInt i))]) (List.forall_mem_cons.mpr ⟨(List.Mem.tail _ (List.Mem.tail _ (List.Mem.head _))), (List.forall_mem_cons.mpr ⟨(List.Mem.tail _ (List.Mem.tail _ (List.Mem.tail _ (List.Mem.head _)))), (List.forall_mem_cons.mpr ⟨(List.Mem.tail _ (List.Mem.tail _ (List.Mem.tail _ (List.Mem.tail _ (List.Mem.head _))))), (List.forall_mem_cons.mpr ⟨(List.Mem.tail _ (List.Mem.tail _ (List.Mem.tail _ (List.Mem.tail _ (List.Mem.tail _ (List.Mem.head _)))))), (List.forall_mem_cons.mpr ⟨(List.Mem.tail _ (List.Mem.tail _ (List.Mem.tail _ (List.Mem.tail _ (List.Mem.tail _ (List.Mem.tail _ (List.Mem.head _))))))), (fun q h => absurd h List.not_mem_nil)⟩)⟩)⟩)⟩)⟩) (hk A _ Is31 JRLx_s31 JFEQ_s31 JREQ_s31 JSEQ_s31 JARJ_s31 JPTJ_s31 (by first | exact oq_f34933ba ws31_89 ws23_89 p1 b16.1 | omega) (by first | exact oq_d7ce4408 ws31_12 ws23_12 p2 | omega) (by first | exact oq_5bcdc35f ws31_74 ws31_0 ws23_74 ws23_0 p3 | omega) (by first | exact oq_5bcdc35f ws31_90 ws31_9 ws23_90 ws23_9 p4 | omega) (by first | exact oq_5bcdc35f ws31_98 ws31_20 ws23_98 ws23_20 p5 | omega) (by first | exact oq_5bcdc35f ws31_97 ws31_28 ws23_97 ws23_28 p6 | omega) (by first | exact oq_5bcdc35f ws31_99 ws31_32 ws23_99 ws23_32 p7 | omega) (by first | exact oq_5bcdc35f ws31_107 ws31_70 ws23_107 ws23_70 p8 | omega) (by first | exact oq_5bc06b03 ws31_83 ws31_12 ws23_83 p9 ws23_12 | omega))
    refine z_if_eq X (t := 1738) rfl rfl ⟨by first | exact sr28.1 | omega, by first | exact sr28.2 | omega⟩ (fun g33 => ?_) (fun g33 => ?_)
    ·
      exact z_const X rfl (N29 _ (Or.inl ⟨g33, rfl⟩))
    ·
      exact z_const X rfl (z_goto X (t := 1739) rfl rfl (N29 _ (Or.inr (⟨g33, rfl⟩))))
  refine z_if_eq X (t := 1699) rfl rfl ⟨by first | exact sr20.1 | omega, by first | exact sr20.2 | omega⟩ (fun g34 => ?_) (fun g34 => ?_)
  ·
    exact z_const X rfl (N21 _ (Or.inl ⟨g34, rfl⟩))
  ·
    exact z_const X rfl (z_goto X (t := 1700) rfl rfl (N21 _ (Or.inr (⟨g34, rfl⟩))))
theorem lc_39 (G : GX l s0 D tys a0 dT) (GR : RS0 s0) (SF : SF0 s0) (GT : TXs0 s0) (GW : TXw0 s0) {k : kx_T} (X : AX k 350 dT) (E : kL k = l ∧ kS0 k = s0 ∧ kD k = D ∧ kR k = room_1) {q1 L : Nat} {xs : Nat → Int32} (S : SX k q1 L xs) (hL : L ≤ 3072) (I : Bd s) (jR : RLx s) (jFEQ : FEQ s) (jREQ : REQ 39 234 28 s) (jSEQ : SEQ s) (jARJ : ARJ s) (jPTJ : PTJ s) (p1 : iI s 89 = 1) (p2 : iI s 12 ≤ 8) (p3 : iI s 0 = iI s 74) (p4 : iI s 9 = iI s 90) (p5 : iI s 20 = iI s 98) (p6 : iI s 28 = iI s 97) (p7 : iI s 32 = iI s 99) (p8 : iI s 70 = iI s 107) (p9 : iI s 12 = iI s 83) {i : Int} (hi : 0 ≤ i ∧ i + 6 ≤ (L : Int)) {ce sl : Nat} (hce : ce + 29 ≤ 601024) (hsl : sl + 222 ≤ 7293034) (hk : ∀ (A : Nat → Nat) (t : PS), Bd t → RLx t → FEQ t → REQ 39 234 28 t → SEQ t → ARJ t → PTJ t → iI t 89 = 1 → iI t 12 ≤ 8 → iI t 0 = iI t 74 → iI t 9 = iI t 90 → iI t 20 = iI t 98 → iI t 28 = iI t 97 → iI t 32 = iI t 99 → iI t 70 = iI t 107 → iI t 12 = iI t 83 → WS k 1866 [(0, .ref q1), (1, .ref (A 0)), (2, .ref (A 179)), (3, .ref (A 517)), (4, .int (Int32.ofInt i))] [] (Wd A dT t) (ce + 29) (sl + 222)) : WS k 1747 [(0, .ref q1), (1, .ref (A 0)), (2, .ref (A 179)), (3, .ref (A 517)), (4, .int (Int32.ofInt i))] [] (Wd A dT s) ce sl := by
  have F : Fm [22, 23, 24, 73, 77, 75, 78, 79, 80, 81] [33, 26, 27, 28, 29, 30, 31, 32, 20, 36, 37, 35, 21, 1022, 1023, 1460, 202, 204, 205, 206, 207, 208, 209, 210, 211, 212, 213, 214, 215, 216, 217, 218, 219, 220, 221, 222, 223, 224, 225, 226, 227, 203, 161, 230, 233, 228] s s := fm_rf _ _ s
  have b1 := bi_0 I
  have b2 := bi_74 I
  have b3 := bi_9 I
  have b4 := bi_90 I
  have b5 := bi_20 I
  have b6 := bi_98 I
  have b7 := bi_28 I
  have b8 := bi_97 I
  have b9 := bi_32 I
  have b10 := bi_99 I
  have b11 := bi_70 I
  have b12 := bi_107 I
  have b13 := bi_12 I
  have b14 := bi_83 I
  have b15 := bi_12 I
  have b16 := bi_89 I
  refine z_aload_n X (x := A 0) rfl (List.Mem.tail _ (List.Mem.head _)) (z_aload_n X (x := q1) rfl (List.Mem.head _) (z_load X (x := i) rfl (List.Mem.tail _ (List.Mem.tail _ (List.Mem.tail _ (List.Mem.tail _ (List.Mem.head _))))) (z_const X rfl (z_add X rfl (z_sld X S hL rfl (show 0 ≤ (i + 1) ∧ (i + 1) < (L : Int) by first | exact sx_in hi (by decide) | omega) ?_)))))
  have sr17 : rng (sc xs (i + 1)) := sc_rng
  refine z_aload_n X (x := q1) rfl (List.Mem.head _) (z_load X (x := i) rfl (List.Mem.tail _ (List.Mem.tail _ (List.Mem.tail _ (List.Mem.tail _ (List.Mem.head _))))) (z_const X rfl (z_add X rfl (z_sld X S hL rfl (show 0 ≤ (i + 2) ∧ (i + 2) < (L : Int) by first | exact sx_in hi (by decide) | omega) ?_))))
  have sr18 : rng (sc xs (i + 2)) := sc_rng
  refine z_aload_n X (x := A 517) rfl (List.Mem.tail _ (List.Mem.tail _ (List.Mem.tail _ (List.Mem.head _)))) ?_
  obtain ⟨U, hU1, hU2, hU3⟩ := air_U jARJ.2.2.2.2.2.1 jARJ.1 jARJ.2.1 jARJ.2.2.1 jARJ.2.2.2.2.1 jARJ.2.2.2.2.2.2.2 (by omega) (by omega)
  refine z_callL X (rm := rmN 348) (As := [.ref (A 0), .int (Int32.ofInt (sc xs (i + 1))), .int (Int32.ofInt (sc xs (i + 2))), .ref (A 517)]) (st := []) rfl (by decide) rfl (by rw [E.1, E.2.1, E.2.2.1]; exact lw_worth6 G I jARJ.2.2.2.2.2.1 jARJ.2.2.2.2.2.2.1 hU1 jPTJ.1 (by omega) (by omega)) ⟨by rw [E.2.2.2]; exact (show 13 + 1 ≤ 2048 by decide), by rw [E.2.2.2]; exact (show 8 + (5 + 11) + 262 ≤ 84000 by decide), by rw [E.2.2.2]; exact (show ce + 3 ≤ 601024 by first | exact rmo_1 hce (by decide) | exact rmo_2 hce (by decide) | omega), by rw [E.2.2.2]; exact (show sl + 18 ≤ 7293034 by first | exact rmo_1 hsl (by decide) | exact rmo_2 hsl (by decide) | omega)⟩ (Nat.le_of_ble_eq_true rfl) (fun vv A s19 hA2 hq => ?_) (fun ee A s19 hA2 hq => ?_)
  rotate_left
  · obtain ⟨Is19, Fs19, JPMJ_s19, e20, hv, hrs19, hps19⟩ := hq; cases hv
  obtain ⟨Is19, Fs19, JPMJ_s19, e20, hv, hrs19, hps19⟩ := hq
  cases hv
  rw [← hA2 0 (by decide)]
  rw [← hA2 179 (by decide)]
  rw [← hA2 517 (by decide)]
  have JRLx_s19 : RLx s19 := RLx_fm Fs19 (by decide) jR
  have JFEQ_s19 : FEQ s19 := FEQ_fm Fs19 (by decide) jFEQ
  have JREQ_s19 : REQ 39 234 28 s19 := REQ_fm Fs19 (by decide) jREQ
  have JSEQ_s19 : SEQ s19 := SEQ_fm Fs19 (by decide) jSEQ
  have JARJ_s19 : ARJ s19 := ARJ_fm Fs19 ⟨by decide +kernel, by decide +kernel, by decide +kernel, by decide +kernel, by decide +kernel, by decide +kernel, by decide +kernel, by decide +kernel⟩ jARJ
  have JALJ_s19 : AEQ 24 229 8 s19 := ALJ_fm Fs19 (by decide) jPTJ.2.2.1
  have JMKJ_s19 : MKJ s19 := MKJ_fm Fs19 (by decide +kernel) jPTJ.2.2.2
  have JMDJ_s19 : MDJ U s19 := MDJ_fm Fs19 (by decide +kernel) hU2
  have ws19_0 : iI s19 0 = iI s 0 := fm_iq Fs19 rfl
  have ws19_74 : iI s19 74 = iI s 74 := fm_iq Fs19 rfl
  have ws19_9 : iI s19 9 = iI s 9 := fm_iq Fs19 rfl
  have ws19_90 : iI s19 90 = iI s 90 := fm_iq Fs19 rfl
  have ws19_20 : iI s19 20 = iI s 20 := fm_iq Fs19 rfl
  have ws19_98 : iI s19 98 = iI s 98 := fm_iq Fs19 rfl
  have ws19_28 : iI s19 28 = iI s 28 := fm_iq Fs19 rfl
  have ws19_97 : iI s19 97 = iI s 97 := fm_iq Fs19 rfl
  have ws19_32 : iI s19 32 = iI s 32 := fm_iq Fs19 rfl
  have ws19_99 : iI s19 99 = iI s 99 := fm_iq Fs19 rfl
  have ws19_70 : iI s19 70 = iI s 70 := fm_iq Fs19 rfl
  have ws19_107 : iI s19 107 = iI s 107 := fm_iq Fs19 rfl
  have ws19_12 : iI s19 12 = iI s 12 := fm_iq Fs19 rfl
  have ws19_83 : iI s19 83 = iI s 83 := fm_iq Fs19 rfl
  have ws19_12 : iI s19 12 = iI s 12 := fm_iq Fs19 rfl
  have ws19_89 : iI s19 89 = iI s 89 := fm_iq Fs19 rfl
  show WS k 1764 [(0, .ref q1), (1, .ref (A 0)), (2, .ref (A 179)), (3, .ref (A 517)), (4, .int (Int32.ofInt i))] [.int (Int32.ofInt e20)] (Wd A dT s19) (ce + 3) (sl + 18)
  refine z_store X (lv' := [(5, .int (Int32.ofInt e20)), (0, .ref q1), (1, .ref (A 0)), (2, .ref (A 179)), (3, .ref (A 517)), (4, .int (Int32.ofInt i))]) rfl (by decide) (fun _ h => h) (z_aload_n X (x := A 179) rfl (List.Mem.tail _ (List.Mem.tail _ (List.Mem.tail _ (List.Mem.head _)))) (z_aload_n X (x := q1) rfl (List.Mem.tail _ (List.Mem.head _)) (z_load X (x := i) rfl (List.Mem.tail _ (List.Mem.tail _ (List.Mem.tail _ (List.Mem.tail _ (List.Mem.tail _ (List.Mem.head _)))))) (z_const X rfl (z_add X rfl (z_sld X S hL rfl (show 0 ≤ (i + 1) ∧ (i + 1) < (L : Int) by first | exact sx_in hi (by decide) | omega) ?_))))))
  have sr21 : rng (sc xs (i + 1)) := sc_rng
  refine z_aload_n X (x := q1) rfl (List.Mem.tail _ (List.Mem.head _)) (z_load X (x := i) rfl (List.Mem.tail _ (List.Mem.tail _ (List.Mem.tail _ (List.Mem.tail _ (List.Mem.tail _ (List.Mem.head _)))))) (z_const X rfl (z_add X rfl (z_sld X S hL rfl (show 0 ≤ (i + 2) ∧ (i + 2) < (L : Int) by first | exact sx_in hi (by decide) | omega) ?_))))
  have sr22 : rng (sc xs (i + 2)) := sc_rng
  refine z_callV X 179 (rm := rmN 291) (As := [.int (Int32.ofInt (sc xs (i + 1))), .int (Int32.ofInt (sc xs (i + 2)))]) (st := []) rfl rfl (by decide) rfl (by rw [E.1, E.2.1, E.2.2.1]; exact k_worth6 G Is19 JRLx_s19 JMDJ_s19 (by first | exact ⟨sr21.1, sr21.2⟩ | omega) (by first | exact ⟨sr22.1, sr22.2⟩ | omega) (by first | exact oq_b44a1c7f ws19_89 p1 b16.1 | omega)) ⟨by rw [E.2.2.2]; exact (show 41 + 1 ≤ 2048 from oq_2c2f0271), by rw [E.2.2.2]; exact (show 8 + (6 + 11) + 1663 ≤ 84000 from oq_b102b2ee), by rw [E.2.2.2]; exact (show (ce + 3) + 0 ≤ 601024 by first | (clear hps19; omega) | omega), by rw [E.2.2.2]; exact (show (sl + 18) + 0 ≤ 7293034 by first | (clear hps19; omega) | omega)⟩ (Nat.le_of_ble_eq_true rfl) (fun vv s23 hq => ?_) (fun ee s23 hq => ?_)
  rotate_left
  · obtain ⟨Is23, Fs23, JRLx_s23, e24, hv, hrs23, hps23⟩ := hq; cases hv
  obtain ⟨Is23, Fs23, JRLx_s23, e24, hv, hrs23, hps23⟩ := hq
  cases hv
  have JRLx_s23 : RLx s23 := RLx_fm Fs23 (by decide) JRLx_s19
  have JFEQ_s23 : FEQ s23 := FEQ_fm Fs23 (by decide) JFEQ_s19
  have JREQ_s23 : REQ 39 234 28 s23 := REQ_fm Fs23 (by decide) JREQ_s19
  have JSEQ_s23 : SEQ s23 := SEQ_fm Fs23 (by decide) JSEQ_s19
  have JARJ_s23 : ARJ s23 := ARJ_fm Fs23 ⟨by decide +kernel, by decide +kernel, by decide +kernel, by decide +kernel, by decide +kernel, by decide +kernel, by decide +kernel, by decide +kernel⟩ JARJ_s19
  have JALJ_s23 : AEQ 24 229 8 s23 := ALJ_fm Fs23 (by decide) JALJ_s19
  have JMKJ_s23 : MKJ s23 := MKJ_fm Fs23 (by decide +kernel) JMKJ_s19
  have JPMJ_s23 : PMJ s23 := PMJ_fm Fs23 (by decide +kernel) JPMJ_s19
  have ws23_0 : iI s23 0 = iI s19 0 := fm_iq Fs23 rfl
  have ws23_74 : iI s23 74 = iI s19 74 := fm_iq Fs23 rfl
  have ws23_9 : iI s23 9 = iI s19 9 := fm_iq Fs23 rfl
  have ws23_90 : iI s23 90 = iI s19 90 := fm_iq Fs23 rfl
  have ws23_20 : iI s23 20 = iI s19 20 := fm_iq Fs23 rfl
  have ws23_98 : iI s23 98 = iI s19 98 := fm_iq Fs23 rfl
  have ws23_28 : iI s23 28 = iI s19 28 := fm_iq Fs23 rfl
  have ws23_97 : iI s23 97 = iI s19 97 := fm_iq Fs23 rfl
  have ws23_32 : iI s23 32 = iI s19 32 := fm_iq Fs23 rfl
  have ws23_99 : iI s23 99 = iI s19 99 := fm_iq Fs23 rfl
  have ws23_70 : iI s23 70 = iI s19 70 := fm_iq Fs23 rfl
  have ws23_107 : iI s23 107 = iI s19 107 := fm_iq Fs23 rfl
  have ws23_12 : iI s23 12 = iI s19 12 := fm_iq Fs23 rfl
  have ws23_83 : iI s23 83 = iI s19 83 := fm_iq Fs23 rfl
  have ws23_12 : iI s23 12 = iI s19 12 := fm_iq Fs23 rfl
  have ws23_89 : iI s23 89 = iI s19 89 := fm_iq Fs23 rfl
  have wos23 : iO s23 = iO s19 := fm_o Fs23 (by decide)
  show WS k 1782 [(5, .int (Int32.ofInt e20)), (0, .ref q1), (1, .ref (A 0)), (2, .ref (A 179)), (3, .ref (A 517)), (4, .int (Int32.ofInt i))] [.int (Int32.ofInt e24)] (Wd A dT s23) (ce + 3) (sl + 18)
  have hq9 : 0 ≤ sc xs (i + 1) ∧ sc xs (i + 1) ≤ 127 → iC s 21 (sc xs (i + 1)).toNat = iC s19 228 (sc xs (i + 1)).toNat := fun h => aeq_at jPTJ.2.1 (sam_fm Fs19 (by decide +kernel)) (by first | (clear hps23 hps19; omega) | (clear hps19; omega) | omega)
  rcases hps19 with cc | cc
  ·
    rcases hps23 with mm | mm
    ·
      have rq25 := wre_eq (u_wok jARJ.2.2.2.2.2.1 hU1) (fun j hj => (jPTJ.2.1 j hj).trans ((sam_fm Fs19 (by decide +kernel) : SAM 228 _ _) j).symm) cc.2.2.2.2.2.2.2.2 mm.2.2.2.2.2.2.2.2
      have jb26 : PTJ s23 := ⟨JPMJ_s23, aeq_sam jPTJ.2.1 (sam_ts cc.2.2.2.2.2.2.2.1 (sam_fm Fs23 (by decide +kernel))) (sam_ts (sam_fm Fs19 (by decide +kernel)) mm.2.2.2.2.2.2.2.1), JALJ_s23, JMKJ_s23⟩
      refine z_store X (lv' := [(6, .int (Int32.ofInt e24)), (5, .int (Int32.ofInt e20)), (0, .ref q1), (1, .ref (A 0)), (2, .ref (A 179)), (3, .ref (A 517)), (4, .int (Int32.ofInt i))]) rfl (by decide) (fun _ h => h) (z_goto X (t := 1866) rfl rfl (w_widen (ce' := ce + 29) (sl' := sl + 222) (by first | exact Nat.le_add_right _ _ | exact Nat.add_le_add_left (by decide) _ | omega) (by first | exact Nat.le_add_right _ _ | exact Nat.add_le_add_left (by decide) _ | omega) ?_))
      exact WS_lv (lv := [(0, .ref q1), (1, .ref (A 0)), (2, .ref (A 179)), (3, .ref (A 517)), (4, .int (Int32.ofInt i))]) (List.forall_mem_cons.mpr ⟨(List.Mem.tail _ (List.Mem.tail _ (List.Mem.head _))), (List.forall_mem_cons.mpr ⟨(List.Mem.tail _ (List.Mem.tail _ (List.Mem.tail _ (List.Mem.head _)))), (List.forall_mem_cons.mpr ⟨(List.Mem.tail _ (List.Mem.tail _ (List.Mem.tail _ (List.Mem.tail _ (List.Mem.head _))))), (List.forall_mem_cons.mpr ⟨(List.Mem.tail _ (List.Mem.tail _ (List.Mem.tail _ (List.Mem.tail _ (List.Mem.tail _ (List.Mem.head _)))))), (List.forall_mem_cons.mpr ⟨(List.Mem.tail _ (List.Mem.tail _ (List.Mem.tail _ (List.Mem.tail _ (List.Mem.tail _ (List.Mem.tail _ (List.Mem.head _))))))), (fun q h => absurd h List.not_mem_nil)⟩)⟩)⟩)⟩)⟩) (hk A _ Is23 JRLx_s23 JFEQ_s23 JREQ_s23 JSEQ_s23 JARJ_s23 jb26 (by first | exact oq_f34933ba ws23_89 ws19_89 p1 b16.1 | omega) (by first | exact oq_d7ce4408 ws23_12 ws19_12 p2 | omega) (by first | exact oq_5bcdc35f ws23_74 ws23_0 ws19_74 ws19_0 p3 | omega) (by first | exact oq_5bcdc35f ws23_90 ws23_9 ws19_90 ws19_9 p4 | omega) (by first | exact oq_5bcdc35f ws23_98 ws23_20 ws19_98 ws19_20 p5 | omega) (by first | exact oq_5bcdc35f ws23_97 ws23_28 ws19_97 ws19_28 p6 | omega) (by first | exact oq_5bcdc35f ws23_99 ws23_32 ws19_99 ws19_32 p7 | omega) (by first | exact oq_5bcdc35f ws23_107 ws23_70 ws19_107 ws19_70 p8 | omega) (by first | exact oq_5bc06b03 ws23_83 ws23_12 ws19_83 p9 ws19_12 | omega))
    ·
      exfalso
      omega
  ·
    rcases hps23 with mm | mm
    ·
      exfalso
      omega
    ·
      have jb27 : PTJ s23 := ⟨JPMJ_s23, aeq_sam jPTJ.2.1 (sam_ts cc.2 (sam_fm Fs23 (by decide +kernel))) (sam_ts (sam_fm Fs19 (by decide +kernel)) mm.2), JALJ_s23, JMKJ_s23⟩
      refine z_store X (lv' := [(6, .int (Int32.ofInt e24)), (5, .int (Int32.ofInt e20)), (0, .ref q1), (1, .ref (A 0)), (2, .ref (A 179)), (3, .ref (A 517)), (4, .int (Int32.ofInt i))]) rfl (by decide) (fun _ h => h) (z_goto X (t := 1866) rfl rfl (w_widen (ce' := ce + 29) (sl' := sl + 222) (by first | exact Nat.le_add_right _ _ | exact Nat.add_le_add_left (by decide) _ | omega) (by first | exact Nat.le_add_right _ _ | exact Nat.add_le_add_left (by decide) _ | omega) ?_))
      exact WS_lv (lv := [(0, .ref q1), (1, .ref (A 0)), (2, .ref (A 179)), (3, .ref (A 517)), (4, .int (Int32.ofInt i))]) (List.forall_mem_cons.mpr ⟨(List.Mem.tail _ (List.Mem.tail _ (List.Mem.head _))), (List.forall_mem_cons.mpr ⟨(List.Mem.tail _ (List.Mem.tail _ (List.Mem.tail _ (List.Mem.head _)))), (List.forall_mem_cons.mpr ⟨(List.Mem.tail _ (List.Mem.tail _ (List.Mem.tail _ (List.Mem.tail _ (List.Mem.head _))))), (List.forall_mem_cons.mpr ⟨(List.Mem.tail _ (List.Mem.tail _ (List.Mem.tail _ (List.Mem.tail _ (List.Mem.tail _ (List.Mem.head _)))))), (List.forall_mem_cons.mpr ⟨(List.Mem.tail _ (List.Mem.tail _ (List.Mem.tail _ (List.Mem.tail _ (List.Mem.tail _ (List.Mem.tail _ (List.Mem.head _))))))), (fun q h => absurd h List.not_mem_nil)⟩)⟩)⟩)⟩)⟩) (hk A _ Is23 JRLx_s23 JFEQ_s23 JREQ_s23 JSEQ_s23 JARJ_s23 jb27 (by first | exact oq_f34933ba ws23_89 ws19_89 p1 b16.1 | omega) (by first | exact oq_d7ce4408 ws23_12 ws19_12 p2 | omega) (by first | exact oq_5bcdc35f ws23_74 ws23_0 ws19_74 ws19_0 p3 | omega) (by first | exact oq_5bcdc35f ws23_90 ws23_9 ws19_90 ws19_9 p4 | omega) (by first | exact oq_5bcdc35f ws23_98 ws23_20 ws19_98 ws19_20 p5 | omega) (by first | exact oq_5bcdc35f ws23_97 ws23_28 ws19_97 ws19_28 p6 | omega) (by first | exact oq_5bcdc35f ws23_99 ws23_32 ws19_99 ws19_32 p7 | omega) (by first | exact oq_5bcdc35f ws23_107 ws23_70 ws19_107 ws19_70 p8 | omega) (by first | exact oq_5bc06b03 ws23_83 ws23_12 ws19_83 p9 ws19_12 | omega))
theorem lc_40 (G : GX l s0 D tys a0 dT) (GR : RS0 s0) (SF : SF0 s0) (GT : TXs0 s0) (GW : TXw0 s0) {k : kx_T} (X : AX k 350 dT) (E : kL k = l ∧ kS0 k = s0 ∧ kD k = D ∧ kR k = room_1) {q1 L : Nat} {xs : Nat → Int32} (S : SX k q1 L xs) (hL : L ≤ 3072) (I : Bd s) (jR : RLx s) (jFEQ : FEQ s) (jREQ : REQ 39 234 28 s) (jSEQ : SEQ s) (jARJ : ARJ s) (jPTJ : PTJ s) (p1 : iI s 89 = 1) (p2 : iI s 12 ≤ 8) (p3 : iI s 0 = iI s 74) (p4 : iI s 9 = iI s 90) (p5 : iI s 20 = iI s 98) (p6 : iI s 28 = iI s 97) (p7 : iI s 32 = iI s 99) (p8 : iI s 70 = iI s 107) (p9 : iI s 12 = iI s 83) {i : Int} (hi : 0 ≤ i ∧ i + 6 ≤ (L : Int)) {ce sl : Nat} (hce : ce + 29 ≤ 601024) (hsl : sl + 222 ≤ 7293034) (hk : ∀ (A : Nat → Nat) (t : PS), Bd t → RLx t → FEQ t → REQ 39 234 28 t → SEQ t → ARJ t → PTJ t → iI t 89 = 1 → iI t 12 ≤ 8 → iI t 0 = iI t 74 → iI t 9 = iI t 90 → iI t 20 = iI t 98 → iI t 28 = iI t 97 → iI t 32 = iI t 99 → iI t 70 = iI t 107 → iI t 12 = iI t 83 → WS k 1866 [(0, .ref q1), (1, .ref (A 0)), (2, .ref (A 179)), (3, .ref (A 517)), (4, .int (Int32.ofInt i))] [] (Wd A dT t) (ce + 29) (sl + 222)) : WS k 1787 [(0, .ref q1), (1, .ref (A 0)), (2, .ref (A 179)), (3, .ref (A 517)), (4, .int (Int32.ofInt i))] [] (Wd A dT s) ce sl := by
  have F : Fm [73] [1460] s s := fm_rf _ _ s
  have b1 := bi_0 I
  have b2 := bi_74 I
  have b3 := bi_9 I
  have b4 := bi_90 I
  have b5 := bi_20 I
  have b6 := bi_98 I
  have b7 := bi_28 I
  have b8 := bi_97 I
  have b9 := bi_32 I
  have b10 := bi_99 I
  have b11 := bi_70 I
  have b12 := bi_107 I
  have b13 := bi_12 I
  have b14 := bi_83 I
  have b15 := bi_12 I
  have b16 := bi_89 I
  refine z_aload_n X (x := A 0) rfl (List.Mem.tail _ (List.Mem.head _)) (z_aload_n X (x := q1) rfl (List.Mem.head _) (z_load X (x := i) rfl (List.Mem.tail _ (List.Mem.tail _ (List.Mem.tail _ (List.Mem.tail _ (List.Mem.head _))))) (z_const X rfl (z_add X rfl (z_sld X S hL rfl (show 0 ≤ (i + 1) ∧ (i + 1) < (L : Int) by first | exact sx_in hi (by decide) | omega) ?_)))))
  have sr17 : rng (sc xs (i + 1)) := sc_rng
  refine z_aload_n X (x := A 517) rfl (List.Mem.tail _ (List.Mem.tail _ (List.Mem.tail _ (List.Mem.head _)))) (z_callL X (rm := rmN 349) (As := [.ref (A 0), .int (Int32.ofInt (sc xs (i + 1))), .ref (A 517)]) (st := []) rfl (by decide) rfl (by rw [E.1, E.2.1, E.2.2.1]; exact lw_quiet G I (by omega)) ⟨by rw [E.2.2.2]; exact (show 9 + 1 ≤ 2048 by decide), by rw [E.2.2.2]; exact (show 8 + (4 + 11) + 166 ≤ 84000 by decide), by rw [E.2.2.2]; exact (show ce + 1 ≤ 601024 by first | exact rmo_1 hce (by decide) | exact rmo_2 hce (by decide) | omega), by rw [E.2.2.2]; exact (show sl + 6 ≤ 7293034 by first | exact rmo_1 hsl (by decide) | exact rmo_2 hsl (by decide) | omega)⟩ (Nat.le_of_ble_eq_true rfl) (fun vv A s18 hA2 hq => ?_) (fun ee A s18 hA2 hq => ?_))
  rotate_left
  · obtain ⟨Is18, Fs18, e19, hv, hrs18, hps18⟩ := hq; cases hv
  obtain ⟨Is18, Fs18, e19, hv, hrs18, hps18⟩ := hq
  cases hv
  rw [← hA2 0 (by decide)]
  rw [← hA2 179 (by decide)]
  rw [← hA2 517 (by decide)]
  have JRLx_s18 : RLx s18 := RLx_fm Fs18 (by decide) jR
  have JFEQ_s18 : FEQ s18 := FEQ_fm Fs18 (by decide) jFEQ
  have JREQ_s18 : REQ 39 234 28 s18 := REQ_fm Fs18 (by decide) jREQ
  have JSEQ_s18 : SEQ s18 := SEQ_fm Fs18 (by decide) jSEQ
  have JARJ_s18 : ARJ s18 := ARJ_fm Fs18 ⟨by decide +kernel, by decide +kernel, by decide +kernel, by decide +kernel, by decide +kernel, by decide +kernel, by decide +kernel, by decide +kernel⟩ jARJ
  have JPTJ_s18 : PTJ s18 := PTJ_fm Fs18 (by decide +kernel) jPTJ
  have ws18_0 : iI s18 0 = iI s 0 := fm_iq Fs18 rfl
  have ws18_74 : iI s18 74 = iI s 74 := fm_iq Fs18 rfl
  have ws18_9 : iI s18 9 = iI s 9 := fm_iq Fs18 rfl
  have ws18_90 : iI s18 90 = iI s 90 := fm_iq Fs18 rfl
  have ws18_20 : iI s18 20 = iI s 20 := fm_iq Fs18 rfl
  have ws18_98 : iI s18 98 = iI s 98 := fm_iq Fs18 rfl
  have ws18_28 : iI s18 28 = iI s 28 := fm_iq Fs18 rfl
  have ws18_97 : iI s18 97 = iI s 97 := fm_iq Fs18 rfl
  have ws18_32 : iI s18 32 = iI s 32 := fm_iq Fs18 rfl
  have ws18_99 : iI s18 99 = iI s 99 := fm_iq Fs18 rfl
  have ws18_70 : iI s18 70 = iI s 70 := fm_iq Fs18 rfl
  have ws18_107 : iI s18 107 = iI s 107 := fm_iq Fs18 rfl
  have ws18_12 : iI s18 12 = iI s 12 := fm_iq Fs18 rfl
  have ws18_83 : iI s18 83 = iI s 83 := fm_iq Fs18 rfl
  have ws18_12 : iI s18 12 = iI s 12 := fm_iq Fs18 rfl
  have ws18_89 : iI s18 89 = iI s 89 := fm_iq Fs18 rfl
  show WS k 1798 [(0, .ref q1), (1, .ref (A 0)), (2, .ref (A 179)), (3, .ref (A 517)), (4, .int (Int32.ofInt i))] [.int (Int32.ofInt e19)] (Wd A dT s18) (ce + 1) (sl + 6)
  refine z_store X (lv' := [(5, .int (Int32.ofInt e19)), (0, .ref q1), (1, .ref (A 0)), (2, .ref (A 179)), (3, .ref (A 517)), (4, .int (Int32.ofInt i))]) rfl (by decide) (fun _ h => h) (z_aload_n X (x := A 179) rfl (List.Mem.tail _ (List.Mem.tail _ (List.Mem.tail _ (List.Mem.head _)))) (z_aload_n X (x := q1) rfl (List.Mem.tail _ (List.Mem.head _)) (z_load X (x := i) rfl (List.Mem.tail _ (List.Mem.tail _ (List.Mem.tail _ (List.Mem.tail _ (List.Mem.tail _ (List.Mem.head _)))))) (z_const X rfl (z_add X rfl (z_sld X S hL rfl (show 0 ≤ (i + 1) ∧ (i + 1) < (L : Int) by first | exact sx_in hi (by decide) | omega) ?_))))))
  have sr20 : rng (sc xs (i + 1)) := sc_rng
  refine z_callV X 179 (rm := rmN 292) (As := [.int (Int32.ofInt (sc xs (i + 1)))]) (st := []) rfl rfl (by decide) rfl (by rw [E.1, E.2.1, E.2.2.1]; exact k_quiet G Is18 (by first | exact ⟨sr20.1, sr20.2⟩ | omega)) ⟨by rw [E.2.2.2]; exact (show 7 + 1 ≤ 2048 from oq_4e6106eb), by rw [E.2.2.2]; exact (show 8 + (4 + 11) + 123 ≤ 84000 from oq_24286ecc), by rw [E.2.2.2]; exact (show (ce + 1) + 0 ≤ 601024 by omega), by rw [E.2.2.2]; exact (show (sl + 6) + 0 ≤ 7293034 by omega)⟩ (Nat.le_of_ble_eq_true rfl) (fun vv s21 hq => ?_) (fun ee s21 hq => ?_)
  rotate_left
  · obtain ⟨Is21, Fs21, e22, hv, hrs21, hps21⟩ := hq; cases hv
  obtain ⟨Is21, Fs21, e22, hv, hrs21, hps21⟩ := hq
  cases hv
  have JRLx_s21 : RLx s21 := RLx_fm Fs21 (by decide) JRLx_s18
  have JFEQ_s21 : FEQ s21 := FEQ_fm Fs21 (by decide) JFEQ_s18
  have JREQ_s21 : REQ 39 234 28 s21 := REQ_fm Fs21 (by decide) JREQ_s18
  have JSEQ_s21 : SEQ s21 := SEQ_fm Fs21 (by decide) JSEQ_s18
  have JARJ_s21 : ARJ s21 := ARJ_fm Fs21 ⟨by decide +kernel, by decide +kernel, by decide +kernel, by decide +kernel, by decide +kernel, by decide +kernel, by decide +kernel, by decide +kernel⟩ JARJ_s18
  have JPTJ_s21 : PTJ s21 := PTJ_fm Fs21 (by decide +kernel) JPTJ_s18
  have ws21_0 : iI s21 0 = iI s18 0 := fm_iq Fs21 rfl
  have ws21_74 : iI s21 74 = iI s18 74 := fm_iq Fs21 rfl
  have ws21_9 : iI s21 9 = iI s18 9 := fm_iq Fs21 rfl
  have ws21_90 : iI s21 90 = iI s18 90 := fm_iq Fs21 rfl
  have ws21_20 : iI s21 20 = iI s18 20 := fm_iq Fs21 rfl
  have ws21_98 : iI s21 98 = iI s18 98 := fm_iq Fs21 rfl
  have ws21_28 : iI s21 28 = iI s18 28 := fm_iq Fs21 rfl
  have ws21_97 : iI s21 97 = iI s18 97 := fm_iq Fs21 rfl
  have ws21_32 : iI s21 32 = iI s18 32 := fm_iq Fs21 rfl
  have ws21_99 : iI s21 99 = iI s18 99 := fm_iq Fs21 rfl
  have ws21_70 : iI s21 70 = iI s18 70 := fm_iq Fs21 rfl
  have ws21_107 : iI s21 107 = iI s18 107 := fm_iq Fs21 rfl
  have ws21_12 : iI s21 12 = iI s18 12 := fm_iq Fs21 rfl
  have ws21_83 : iI s21 83 = iI s18 83 := fm_iq Fs21 rfl
  have ws21_12 : iI s21 12 = iI s18 12 := fm_iq Fs21 rfl
  have ws21_89 : iI s21 89 = iI s18 89 := fm_iq Fs21 rfl
  have wos21 : iO s21 = iO s18 := fm_o Fs21 (by decide)
  show WS k 1810 [(5, .int (Int32.ofInt e19)), (0, .ref q1), (1, .ref (A 0)), (2, .ref (A 179)), (3, .ref (A 517)), (4, .int (Int32.ofInt i))] [.int (Int32.ofInt e22)] (Wd A dT s21) (ce + 1) (sl + 6)
  refine z_store X (lv' := [(6, .int (Int32.ofInt e22)), (5, .int (Int32.ofInt e19)), (0, .ref q1), (1, .ref (A 0)), (2, .ref (A 179)), (3, .ref (A 517)), (4, .int (Int32.ofInt i))]) rfl (by decide) (fun _ h => h) (z_goto X (t := 1866) rfl rfl (w_widen (ce' := ce + 29) (sl' := sl + 222) (by first | exact Nat.le_add_right _ _ | exact Nat.add_le_add_left (by decide) _ | omega) (by first | exact Nat.le_add_right _ _ | exact Nat.add_le_add_left (by decide) _ | omega) ?_))
  exact WS_lv (lv := [(0, .ref q1), (1, .ref (A 0)), (2, .ref (A 179)), (3, .ref (A 517)), (4, .int (Int32.ofInt i))]) (List.forall_mem_cons.mpr ⟨(List.Mem.tail _ (List.Mem.tail _ (List.Mem.head _))), (List.forall_mem_cons.mpr ⟨(List.Mem.tail _ (List.Mem.tail _ (List.Mem.tail _ (List.Mem.head _)))), (List.forall_mem_cons.mpr ⟨(List.Mem.tail _ (List.Mem.tail _ (List.Mem.tail _ (List.Mem.tail _ (List.Mem.head _))))), (List.forall_mem_cons.mpr ⟨(List.Mem.tail _ (List.Mem.tail _ (List.Mem.tail _ (List.Mem.tail _ (List.Mem.tail _ (List.Mem.head _)))))), (List.forall_mem_cons.mpr ⟨(List.Mem.tail _ (List.Mem.tail _ (List.Mem.tail _ (List.Mem.tail _ (List.Mem.tail _ (List.Mem.tail _ (List.Mem.head _))))))), (fun q h => absurd h List.not_mem_nil)⟩)⟩)⟩)⟩)⟩) (hk A _ Is21 JRLx_s21 JFEQ_s21 JREQ_s21 JSEQ_s21 JARJ_s21 JPTJ_s21 (by first | exact oq_f34933ba ws21_89 ws18_89 p1 b16.1 | omega) (by first | exact oq_d7ce4408 ws21_12 ws18_12 p2 | omega) (by first | exact oq_5bcdc35f ws21_74 ws21_0 ws18_74 ws18_0 p3 | omega) (by first | exact oq_5bcdc35f ws21_90 ws21_9 ws18_90 ws18_9 p4 | omega) (by first | exact oq_5bcdc35f ws21_98 ws21_20 ws18_98 ws18_20 p5 | omega) (by first | exact oq_5bcdc35f ws21_97 ws21_28 ws18_97 ws18_28 p6 | omega) (by first | exact oq_5bcdc35f ws21_99 ws21_32 ws18_99 ws18_32 p7 | omega) (by first | exact oq_5bcdc35f ws21_107 ws21_70 ws18_107 ws18_70 p8 | omega) (by first | exact oq_5bc06b03 ws21_83 ws21_12 ws18_83 p9 ws18_12 | omega))
theorem lc_41 (G : GX l s0 D tys a0 dT) (GR : RS0 s0) (SF : SF0 s0) (GT : TXs0 s0) (GW : TXw0 s0) {k : kx_T} (X : AX k 350 dT) (E : kL k = l ∧ kS0 k = s0 ∧ kD k = D ∧ kR k = room_1) {q1 L : Nat} {xs : Nat → Int32} (S : SX k q1 L xs) (hL : L ≤ 3072) (I : Bd s) (jR : RLx s) (jFEQ : FEQ s) (jREQ : REQ 39 234 28 s) (jSEQ : SEQ s) (jARJ : ARJ s) (jPTJ : PTJ s) (p1 : iI s 89 = 1) (p2 : iI s 12 ≤ 8) (p3 : iI s 0 = iI s 74) (p4 : iI s 9 = iI s 90) (p5 : iI s 20 = iI s 98) (p6 : iI s 28 = iI s 97) (p7 : iI s 32 = iI s 99) (p8 : iI s 70 = iI s 107) (p9 : iI s 12 = iI s 83) {i : Int} (hi : 0 ≤ i ∧ i + 6 ≤ (L : Int)) {ce sl : Nat} (hce : ce + 29 ≤ 601024) (hsl : sl + 222 ≤ 7293034) (hk : ∀ (A : Nat → Nat) (t : PS), Bd t → RLx t → FEQ t → REQ 39 234 28 t → SEQ t → ARJ t → PTJ t → iI t 89 = 1 → iI t 12 ≤ 8 → iI t 0 = iI t 74 → iI t 9 = iI t 90 → iI t 20 = iI t 98 → iI t 28 = iI t 97 → iI t 32 = iI t 99 → iI t 70 = iI t 107 → iI t 12 = iI t 83 → WS k 1866 [(0, .ref q1), (1, .ref (A 0)), (2, .ref (A 179)), (3, .ref (A 517)), (4, .int (Int32.ofInt i))] [] (Wd A dT t) (ce + 29) (sl + 222)) : WS k 1815 [(0, .ref q1), (1, .ref (A 0)), (2, .ref (A 179)), (3, .ref (A 517)), (4, .int (Int32.ofInt i))] [] (Wd A dT s) ce sl := by
  have F : Fm [20, 73, 98] [25, 241, 242, 243, 244] s s := fm_rf _ _ s
  have b1 := bi_0 I
  have b2 := bi_74 I
  have b3 := bi_9 I
  have b4 := bi_90 I
  have b5 := bi_20 I
  have b6 := bi_98 I
  have b7 := bi_28 I
  have b8 := bi_97 I
  have b9 := bi_32 I
  have b10 := bi_99 I
  have b11 := bi_70 I
  have b12 := bi_107 I
  have b13 := bi_12 I
  have b14 := bi_83 I
  have b15 := bi_12 I
  have b16 := bi_89 I
  refine z_aload_n X (x := A 0) rfl (List.Mem.tail _ (List.Mem.head _)) (z_callV X 0 (rm := rmN 176) (As := []) (st := []) rfl rfl (by decide) rfl (by rw [E.1, E.2.1, E.2.2.1]; exact cs_mark6 G I ) ⟨by rw [E.2.2.2]; exact (show 7 + 1 ≤ 2048 from oq_4e6106eb), by rw [E.2.2.2]; exact (show 8 + (1 + 11) + 120 ≤ 84000 from oq_23aa4b49), by rw [E.2.2.2]; exact (show ce + 0 ≤ 601024 by omega), by rw [E.2.2.2]; exact (show sl + 0 ≤ 7293034 by omega)⟩ (Nat.le_of_ble_eq_true rfl) (fun vv s17 hq => ?_) (fun ee s17 hq => ?_))
  rotate_left
  · obtain ⟨Is17, Fs17, e18, hv, hrs17, hps17⟩ := hq; cases hv
  obtain ⟨Is17, Fs17, e18, hv, hrs17, hps17⟩ := hq
  cases hv
  have JRLx_s17 : RLx s17 := RLx_fm Fs17 (by decide) jR
  have JFEQ_s17 : FEQ s17 := FEQ_fm Fs17 (by decide) jFEQ
  have JREQ_s17 : REQ 39 234 28 s17 := REQ_fm Fs17 (by decide) jREQ
  have JSEQ_s17 : SEQ s17 := SEQ_fm Fs17 (by decide) jSEQ
  have JARJ_s17 : ARJ s17 := ARJ_fm Fs17 ⟨by decide +kernel, by decide +kernel, by decide +kernel, by decide +kernel, by decide +kernel, by decide +kernel, by decide +kernel, by decide +kernel⟩ jARJ
  have JPMJ_s17 : PMJ s17 := PMJ_fm Fs17 (by decide +kernel) jPTJ.1
  have JAPJ_s17 : AEQ 21 228 128 s17 := APJ_fm Fs17 (by decide) jPTJ.2.1
  have JALJ_s17 : AEQ 24 229 8 s17 := ALJ_fm Fs17 (by decide) jPTJ.2.2.1
  have ws17_0 : iI s17 0 = iI s 0 := fm_iq Fs17 rfl
  have ws17_74 : iI s17 74 = iI s 74 := fm_iq Fs17 rfl
  have ws17_9 : iI s17 9 = iI s 9 := fm_iq Fs17 rfl
  have ws17_90 : iI s17 90 = iI s 90 := fm_iq Fs17 rfl
  have b19 := bi_20 Is17
  have ws17_98 : iI s17 98 = iI s 98 := fm_iq Fs17 rfl
  have ws17_28 : iI s17 28 = iI s 28 := fm_iq Fs17 rfl
  have ws17_97 : iI s17 97 = iI s 97 := fm_iq Fs17 rfl
  have ws17_32 : iI s17 32 = iI s 32 := fm_iq Fs17 rfl
  have ws17_99 : iI s17 99 = iI s 99 := fm_iq Fs17 rfl
  have ws17_70 : iI s17 70 = iI s 70 := fm_iq Fs17 rfl
  have ws17_107 : iI s17 107 = iI s 107 := fm_iq Fs17 rfl
  have ws17_12 : iI s17 12 = iI s 12 := fm_iq Fs17 rfl
  have ws17_83 : iI s17 83 = iI s 83 := fm_iq Fs17 rfl
  have ws17_12 : iI s17 12 = iI s 12 := fm_iq Fs17 rfl
  have ws17_89 : iI s17 89 = iI s 89 := fm_iq Fs17 rfl
  have wos17 : iO s17 = iO s := fm_o Fs17 (by decide)
  show WS k 1819 [(0, .ref q1), (1, .ref (A 0)), (2, .ref (A 179)), (3, .ref (A 517)), (4, .int (Int32.ofInt i))] [.int (Int32.ofInt e18)] (Wd A dT s17) ce sl
  refine w_pop X.1 (ax_d X (show cdA 350 1819 = some (.pop, 1, 0, 0, 0) from rfl)) rfl (z_aload_n X (x := A 179) rfl (List.Mem.tail _ (List.Mem.tail _ (List.Mem.head _))) (z_callV X 179 (rm := rmN 293) (As := []) (st := []) rfl rfl (by decide) rfl (by rw [E.1, E.2.1, E.2.2.1]; exact k_mark6 G Is17 ) ⟨by rw [E.2.2.2]; exact (show 6 + 1 ≤ 2048 from oq_4d34cb53), by rw [E.2.2.2]; exact (show 8 + (2 + 11) + 100 ≤ 84000 from oq_8731b8c0), by rw [E.2.2.2]; exact (show ce + 0 ≤ 601024 by first | (clear hps17; omega) | omega), by rw [E.2.2.2]; exact (show sl + 0 ≤ 7293034 by first | (clear hps17; omega) | omega)⟩ (Nat.le_of_ble_eq_true rfl) (fun vv s20 hq => ?_) (fun ee s20 hq => ?_)))
  rotate_left
  · obtain ⟨Is20, Fs20, e21, hv, hrs20, hps20⟩ := hq; cases hv
  obtain ⟨Is20, Fs20, e21, hv, hrs20, hps20⟩ := hq
  cases hv
  have JRLx_s20 : RLx s20 := RLx_fm Fs20 (by decide) JRLx_s17
  have JFEQ_s20 : FEQ s20 := FEQ_fm Fs20 (by decide) JFEQ_s17
  have JREQ_s20 : REQ 39 234 28 s20 := REQ_fm Fs20 (by decide) JREQ_s17
  have JSEQ_s20 : SEQ s20 := SEQ_fm Fs20 (by decide) JSEQ_s17
  have JARJ_s20 : ARJ s20 := ARJ_fm Fs20 ⟨by decide +kernel, by decide +kernel, by decide +kernel, by decide +kernel, by decide +kernel, by decide +kernel, by decide +kernel, by decide +kernel⟩ JARJ_s17
  have JPMJ_s20 : PMJ s20 := PMJ_fm Fs20 (by decide +kernel) JPMJ_s17
  have JAPJ_s20 : AEQ 21 228 128 s20 := APJ_fm Fs20 (by decide) JAPJ_s17
  have JALJ_s20 : AEQ 24 229 8 s20 := ALJ_fm Fs20 (by decide) JALJ_s17
  have ws20_0 : iI s20 0 = iI s17 0 := fm_iq Fs20 rfl
  have ws20_74 : iI s20 74 = iI s17 74 := fm_iq Fs20 rfl
  have ws20_9 : iI s20 9 = iI s17 9 := fm_iq Fs20 rfl
  have ws20_90 : iI s20 90 = iI s17 90 := fm_iq Fs20 rfl
  have ws20_20 : iI s20 20 = iI s17 20 := fm_iq Fs20 rfl
  have b22 := bi_98 Is20
  have ws20_28 : iI s20 28 = iI s17 28 := fm_iq Fs20 rfl
  have ws20_97 : iI s20 97 = iI s17 97 := fm_iq Fs20 rfl
  have ws20_32 : iI s20 32 = iI s17 32 := fm_iq Fs20 rfl
  have ws20_99 : iI s20 99 = iI s17 99 := fm_iq Fs20 rfl
  have ws20_70 : iI s20 70 = iI s17 70 := fm_iq Fs20 rfl
  have ws20_107 : iI s20 107 = iI s17 107 := fm_iq Fs20 rfl
  have ws20_12 : iI s20 12 = iI s17 12 := fm_iq Fs20 rfl
  have ws20_83 : iI s20 83 = iI s17 83 := fm_iq Fs20 rfl
  have ws20_12 : iI s20 12 = iI s17 12 := fm_iq Fs20 rfl
  have ws20_89 : iI s20 89 = iI s17 89 := fm_iq Fs20 rfl
  have wos20 : iO s20 = iO s17 := fm_o Fs20 (by decide)
  show WS k 1824 [(0, .ref q1), (1, .ref (A 0)), (2, .ref (A 179)), (3, .ref (A 517)), (4, .int (Int32.ofInt i))] [.int (Int32.ofInt e21)] (Wd A dT s20) ce sl
  rcases hps17 with cc | cc
  ·
    rcases hps20 with mm | mm
    ·
      have jb23 : PTJ s20 := ⟨JPMJ_s20, JAPJ_s20, JALJ_s20, mkj_up jPTJ.2.2.2 jPTJ.2.1 cc.2.2.2 (by have z := mm.2.2.2.2; rw [show iI s17 98 = iI s 20 by first | (clear hps20 hps17; omega) | (clear hps17; omega) | omega] at z; exact mkp_t z (sam_fm Fs17 (by decide +kernel)) (fun k j hk => fm_c Fs17 ((by decide +kernel : ∀ i, i < 4 → 241 + i ∉ _) k hk))) (sam_fm Fs20 (by decide +kernel)) (by first | (clear hps20 hps17; omega) | (clear hps17; omega) | omega) (by first | (clear hps20 hps17; omega) | (clear hps17; omega) | omega)⟩
      refine w_pop X.1 (ax_d X (show cdA 350 1824 = some (.pop, 1, 0, 0, 0) from rfl)) rfl (z_goto X (t := 1866) rfl rfl (w_widen (ce' := ce + 29) (sl' := sl + 222) (by first | exact Nat.le_add_right _ _ | exact Nat.add_le_add_left (by decide) _ | omega) (by first | exact Nat.le_add_right _ _ | exact Nat.add_le_add_left (by decide) _ | omega) ?_))
      exact WS_lv (lv := [(0, .ref q1), (1, .ref (A 0)), (2, .ref (A 179)), (3, .ref (A 517)), (4, .int (Int32.ofInt i))]) (List.forall_mem_cons.mpr ⟨(List.Mem.head _), (List.forall_mem_cons.mpr ⟨(List.Mem.tail _ (List.Mem.head _)), (List.forall_mem_cons.mpr ⟨(List.Mem.tail _ (List.Mem.tail _ (List.Mem.head _))), (List.forall_mem_cons.mpr ⟨(List.Mem.tail _ (List.Mem.tail _ (List.Mem.tail _ (List.Mem.head _)))), (List.forall_mem_cons.mpr ⟨(List.Mem.tail _ (List.Mem.tail _ (List.Mem.tail _ (List.Mem.tail _ (List.Mem.head _))))), (fun q h => absurd h List.not_mem_nil)⟩)⟩)⟩)⟩)⟩) (hk A _ Is20 JRLx_s20 JFEQ_s20 JREQ_s20 JSEQ_s20 JARJ_s20 jb23 (by first | exact oq_f34933ba ws20_89 ws17_89 p1 b16.1 | omega) (by first | exact oq_d7ce4408 ws20_12 ws17_12 p2 | omega) (by first | exact oq_5bcdc35f ws20_74 ws20_0 ws17_74 ws17_0 p3 | omega) (by first | exact oq_5bcdc35f ws20_90 ws20_9 ws17_90 ws17_9 p4 | omega) (by first | (clear hps20 hps17; omega) | (clear hps17; omega) | omega) (by first | exact oq_5bcdc35f ws20_97 ws20_28 ws17_97 ws17_28 p6 | omega) (by first | exact oq_5bcdc35f ws20_99 ws20_32 ws17_99 ws17_32 p7 | omega) (by first | exact oq_5bcdc35f ws20_107 ws20_70 ws17_107 ws17_70 p8 | omega) (by first | exact oq_5bc06b03 ws20_83 ws20_12 ws17_83 p9 ws17_12 | omega))
    ·
      exfalso
      omega
  ·
    rcases hps20 with mm | mm
    ·
      exfalso
      omega
    ·
      have jb24 : PTJ s20 := ⟨JPMJ_s20, JAPJ_s20, JALJ_s20, mkj_s jPTJ.2.2.2 (by first | (clear hps20 hps17; omega) | (clear hps17; omega) | omega) (sam_ts cc.2.2.2 (sam_fm Fs20 (by decide +kernel))) (fun k j hk => (mm.2.2.2.2 k j hk).trans ((fun k j hk => fm_c Fs17 ((by decide +kernel : ∀ i, i < 4 → 241 + i ∉ _) k hk)) k j hk))⟩
      refine w_pop X.1 (ax_d X (show cdA 350 1824 = some (.pop, 1, 0, 0, 0) from rfl)) rfl (z_goto X (t := 1866) rfl rfl (w_widen (ce' := ce + 29) (sl' := sl + 222) (by first | exact Nat.le_add_right _ _ | exact Nat.add_le_add_left (by decide) _ | omega) (by first | exact Nat.le_add_right _ _ | exact Nat.add_le_add_left (by decide) _ | omega) ?_))
      exact WS_lv (lv := [(0, .ref q1), (1, .ref (A 0)), (2, .ref (A 179)), (3, .ref (A 517)), (4, .int (Int32.ofInt i))]) (List.forall_mem_cons.mpr ⟨(List.Mem.head _), (List.forall_mem_cons.mpr ⟨(List.Mem.tail _ (List.Mem.head _)), (List.forall_mem_cons.mpr ⟨(List.Mem.tail _ (List.Mem.tail _ (List.Mem.head _))), (List.forall_mem_cons.mpr ⟨(List.Mem.tail _ (List.Mem.tail _ (List.Mem.tail _ (List.Mem.head _)))), (List.forall_mem_cons.mpr ⟨(List.Mem.tail _ (List.Mem.tail _ (List.Mem.tail _ (List.Mem.tail _ (List.Mem.head _))))), (fun q h => absurd h List.not_mem_nil)⟩)⟩)⟩)⟩)⟩) (hk A _ Is20 JRLx_s20 JFEQ_s20 JREQ_s20 JSEQ_s20 JARJ_s20 jb24 (by first | exact oq_f34933ba ws20_89 ws17_89 p1 b16.1 | omega) (by first | exact oq_d7ce4408 ws20_12 ws17_12 p2 | omega) (by first | exact oq_5bcdc35f ws20_74 ws20_0 ws17_74 ws17_0 p3 | omega) (by first | exact oq_5bcdc35f ws20_90 ws20_9 ws17_90 ws17_9 p4 | omega) (by first | (clear hps20 hps17; omega) | (clear hps17; omega) | omega) (by first | exact oq_5bcdc35f ws20_97 ws20_28 ws17_97 ws17_28 p6 | omega) (by first | exact oq_5bcdc35f ws20_99 ws20_32 ws17_99 ws17_32 p7 | omega) (by first | exact oq_5bcdc35f ws20_107 ws20_70 ws17_107 ws17_70 p8 | omega) (by first | exact oq_5bc06b03 ws20_83 ws20_12 ws17_83 p9 ws17_12 | omega))
theorem lc_42 (G : GX l s0 D tys a0 dT) (GR : RS0 s0) (SF : SF0 s0) (GT : TXs0 s0) (GW : TXw0 s0) {k : kx_T} (X : AX k 350 dT) (E : kL k = l ∧ kS0 k = s0 ∧ kD k = D ∧ kR k = room_1) {q1 L : Nat} {xs : Nat → Int32} (S : SX k q1 L xs) (hL : L ≤ 3072) (I : Bd s) (jR : RLx s) (jFEQ : FEQ s) (jREQ : REQ 39 234 28 s) (jSEQ : SEQ s) (jARJ : ARJ s) (jPTJ : PTJ s) (p1 : iI s 89 = 1) (p2 : iI s 12 ≤ 8) (p3 : iI s 0 = iI s 74) (p4 : iI s 9 = iI s 90) (p5 : iI s 20 = iI s 98) (p6 : iI s 28 = iI s 97) (p7 : iI s 32 = iI s 99) (p8 : iI s 70 = iI s 107) (p9 : iI s 12 = iI s 83) {i : Int} (hi : 0 ≤ i ∧ i + 6 ≤ (L : Int)) {ce sl : Nat} (hce : ce + 29 ≤ 601024) (hsl : sl + 222 ≤ 7293034) (hk : ∀ (A : Nat → Nat) (t : PS), Bd t → RLx t → FEQ t → REQ 39 234 28 t → SEQ t → ARJ t → PTJ t → iI t 89 = 1 → iI t 12 ≤ 8 → iI t 0 = iI t 74 → iI t 9 = iI t 90 → iI t 20 = iI t 98 → iI t 28 = iI t 97 → iI t 32 = iI t 99 → iI t 70 = iI t 107 → iI t 12 = iI t 83 → WS k 1866 [(0, .ref q1), (1, .ref (A 0)), (2, .ref (A 179)), (3, .ref (A 517)), (4, .int (Int32.ofInt i))] [] (Wd A dT t) (ce + 29) (sl + 222)) : WS k 1828 [(0, .ref q1), (1, .ref (A 0)), (2, .ref (A 179)), (3, .ref (A 517)), (4, .int (Int32.ofInt i))] [] (Wd A dT s) ce sl := by
  have F : Fm [20, 73, 98] [21, 1022, 1023, 228] s s := fm_rf _ _ s
  have b1 := bi_0 I
  have b2 := bi_74 I
  have b3 := bi_9 I
  have b4 := bi_90 I
  have b5 := bi_20 I
  have b6 := bi_98 I
  have b7 := bi_28 I
  have b8 := bi_97 I
  have b9 := bi_32 I
  have b10 := bi_99 I
  have b11 := bi_70 I
  have b12 := bi_107 I
  have b13 := bi_12 I
  have b14 := bi_83 I
  have b15 := bi_12 I
  have b16 := bi_89 I
  refine z_aload_n X (x := A 0) rfl (List.Mem.tail _ (List.Mem.head _)) (z_callV X 0 (rm := rmN 177) (As := []) (st := []) rfl rfl (by decide) rfl (by rw [E.1, E.2.1, E.2.2.1]; exact cs_back6 G I jPTJ.1 ) ⟨by rw [E.2.2.2]; exact (show 8 + 1 ≤ 2048 from oq_5bf2829b), by rw [E.2.2.2]; exact (show 8 + (1 + 11) + 147 ≤ 84000 from oq_6fd3db4b), by rw [E.2.2.2]; exact (show ce + 0 ≤ 601024 by omega), by rw [E.2.2.2]; exact (show sl + 0 ≤ 7293034 by omega)⟩ (Nat.le_of_ble_eq_true rfl) (fun vv s17 hq => ?_) (fun ee s17 hq => ?_))
  rotate_left
  · obtain ⟨Is17, Fs17, JPMJ_s17, e18, hv, hrs17, hps17⟩ := hq; cases hv
  obtain ⟨Is17, Fs17, JPMJ_s17, e18, hv, hrs17, hps17⟩ := hq
  cases hv
  have JRLx_s17 : RLx s17 := RLx_fm Fs17 (by decide) jR
  have JFEQ_s17 : FEQ s17 := FEQ_fm Fs17 (by decide) jFEQ
  have JREQ_s17 : REQ 39 234 28 s17 := REQ_fm Fs17 (by decide) jREQ
  have JSEQ_s17 : SEQ s17 := SEQ_fm Fs17 (by decide) jSEQ
  have JARJ_s17 : ARJ s17 := ARJ_fm Fs17 ⟨by decide +kernel, by decide +kernel, by decide +kernel, by decide +kernel, by decide +kernel, by decide +kernel, by decide +kernel, by decide +kernel⟩ jARJ
  have JALJ_s17 : AEQ 24 229 8 s17 := ALJ_fm Fs17 (by decide) jPTJ.2.2.1
  have ws17_0 : iI s17 0 = iI s 0 := fm_iq Fs17 rfl
  have ws17_74 : iI s17 74 = iI s 74 := fm_iq Fs17 rfl
  have ws17_9 : iI s17 9 = iI s 9 := fm_iq Fs17 rfl
  have ws17_90 : iI s17 90 = iI s 90 := fm_iq Fs17 rfl
  have b19 := bi_20 Is17
  have ws17_98 : iI s17 98 = iI s 98 := fm_iq Fs17 rfl
  have ws17_28 : iI s17 28 = iI s 28 := fm_iq Fs17 rfl
  have ws17_97 : iI s17 97 = iI s 97 := fm_iq Fs17 rfl
  have ws17_32 : iI s17 32 = iI s 32 := fm_iq Fs17 rfl
  have ws17_99 : iI s17 99 = iI s 99 := fm_iq Fs17 rfl
  have ws17_70 : iI s17 70 = iI s 70 := fm_iq Fs17 rfl
  have ws17_107 : iI s17 107 = iI s 107 := fm_iq Fs17 rfl
  have ws17_12 : iI s17 12 = iI s 12 := fm_iq Fs17 rfl
  have ws17_83 : iI s17 83 = iI s 83 := fm_iq Fs17 rfl
  have ws17_12 : iI s17 12 = iI s 12 := fm_iq Fs17 rfl
  have ws17_89 : iI s17 89 = iI s 89 := fm_iq Fs17 rfl
  have wos17 : iO s17 = iO s := fm_o Fs17 (by decide)
  show WS k 1832 [(0, .ref q1), (1, .ref (A 0)), (2, .ref (A 179)), (3, .ref (A 517)), (4, .int (Int32.ofInt i))] [.int (Int32.ofInt e18)] (Wd A dT s17) ce sl
  refine w_pop X.1 (ax_d X (show cdA 350 1832 = some (.pop, 1, 0, 0, 0) from rfl)) rfl (z_aload_n X (x := A 179) rfl (List.Mem.tail _ (List.Mem.tail _ (List.Mem.head _))) (z_callV X 179 (rm := rmN 294) (As := []) (st := []) rfl rfl (by decide) rfl (by rw [E.1, E.2.1, E.2.2.1]; exact k_back6 G Is17 ) ⟨by rw [E.2.2.2]; exact (show 6 + 1 ≤ 2048 from oq_4d34cb53), by rw [E.2.2.2]; exact (show 8 + (2 + 11) + 100 ≤ 84000 from oq_8731b8c0), by rw [E.2.2.2]; exact (show ce + 0 ≤ 601024 by first | (clear hps17; omega) | omega), by rw [E.2.2.2]; exact (show sl + 0 ≤ 7293034 by first | (clear hps17; omega) | omega)⟩ (Nat.le_of_ble_eq_true rfl) (fun vv s20 hq => ?_) (fun ee s20 hq => ?_)))
  rotate_left
  · obtain ⟨Is20, Fs20, e21, hv, hrs20, hps20⟩ := hq; cases hv
  obtain ⟨Is20, Fs20, e21, hv, hrs20, hps20⟩ := hq
  cases hv
  have JRLx_s20 : RLx s20 := RLx_fm Fs20 (by decide) JRLx_s17
  have JFEQ_s20 : FEQ s20 := FEQ_fm Fs20 (by decide) JFEQ_s17
  have JREQ_s20 : REQ 39 234 28 s20 := REQ_fm Fs20 (by decide) JREQ_s17
  have JSEQ_s20 : SEQ s20 := SEQ_fm Fs20 (by decide) JSEQ_s17
  have JARJ_s20 : ARJ s20 := ARJ_fm Fs20 ⟨by decide +kernel, by decide +kernel, by decide +kernel, by decide +kernel, by decide +kernel, by decide +kernel, by decide +kernel, by decide +kernel⟩ JARJ_s17
  have JPMJ_s20 : PMJ s20 := PMJ_fm Fs20 (by decide +kernel) JPMJ_s17
  have JALJ_s20 : AEQ 24 229 8 s20 := ALJ_fm Fs20 (by decide) JALJ_s17
  have ws20_0 : iI s20 0 = iI s17 0 := fm_iq Fs20 rfl
  have ws20_74 : iI s20 74 = iI s17 74 := fm_iq Fs20 rfl
  have ws20_9 : iI s20 9 = iI s17 9 := fm_iq Fs20 rfl
  have ws20_90 : iI s20 90 = iI s17 90 := fm_iq Fs20 rfl
  have ws20_20 : iI s20 20 = iI s17 20 := fm_iq Fs20 rfl
  have b22 := bi_98 Is20
  have ws20_28 : iI s20 28 = iI s17 28 := fm_iq Fs20 rfl
  have ws20_97 : iI s20 97 = iI s17 97 := fm_iq Fs20 rfl
  have ws20_32 : iI s20 32 = iI s17 32 := fm_iq Fs20 rfl
  have ws20_99 : iI s20 99 = iI s17 99 := fm_iq Fs20 rfl
  have ws20_70 : iI s20 70 = iI s17 70 := fm_iq Fs20 rfl
  have ws20_107 : iI s20 107 = iI s17 107 := fm_iq Fs20 rfl
  have ws20_12 : iI s20 12 = iI s17 12 := fm_iq Fs20 rfl
  have ws20_83 : iI s20 83 = iI s17 83 := fm_iq Fs20 rfl
  have ws20_12 : iI s20 12 = iI s17 12 := fm_iq Fs20 rfl
  have ws20_89 : iI s20 89 = iI s17 89 := fm_iq Fs20 rfl
  have wos20 : iO s20 = iO s17 := fm_o Fs20 (by decide)
  show WS k 1837 [(0, .ref q1), (1, .ref (A 0)), (2, .ref (A 179)), (3, .ref (A 517)), (4, .int (Int32.ofInt i))] [.int (Int32.ofInt e21)] (Wd A dT s20) ce sl
  rcases hps17 with cc | cc
  ·
    rcases hps20 with mm | mm
    ·
      have jb23 : PTJ s20 := ⟨JPMJ_s20, apj_bkq jPTJ.2.2.2 (by first | (clear hps20 hps17; omega) | (clear hps17; omega) | omega) cc.2.2.2 mm.2.2.2.2 (by first | (clear hps20 hps17; omega) | (clear hps17; omega) | omega) (fun k j hk => fm_c Fs17 ((by decide +kernel : ∀ i, i < 4 → 241 + i ∉ _) k hk)) (sam_fm Fs20 (by decide +kernel)), JALJ_s20, mkj_s jPTJ.2.2.2 (by first | (clear hps20 hps17; omega) | (clear hps17; omega) | omega) (sam_ts (sam_fm Fs17 (by decide +kernel) : SAM 25 _ _) (sam_fm Fs20 (by decide +kernel))) (fun k j hk => ((fun k j hk => fm_c Fs20 ((by decide +kernel : ∀ i, i < 4 → 241 + i ∉ _) k hk)) k j hk).trans ((fun k j hk => fm_c Fs17 ((by decide +kernel : ∀ i, i < 4 → 241 + i ∉ _) k hk)) k j hk))⟩
      refine w_pop X.1 (ax_d X (show cdA 350 1837 = some (.pop, 1, 0, 0, 0) from rfl)) rfl (z_goto X (t := 1866) rfl rfl (w_widen (ce' := ce + 29) (sl' := sl + 222) (by first | exact Nat.le_add_right _ _ | exact Nat.add_le_add_left (by decide) _ | omega) (by first | exact Nat.le_add_right _ _ | exact Nat.add_le_add_left (by decide) _ | omega) ?_))
      exact WS_lv (lv := [(0, .ref q1), (1, .ref (A 0)), (2, .ref (A 179)), (3, .ref (A 517)), (4, .int (Int32.ofInt i))]) (List.forall_mem_cons.mpr ⟨(List.Mem.head _), (List.forall_mem_cons.mpr ⟨(List.Mem.tail _ (List.Mem.head _)), (List.forall_mem_cons.mpr ⟨(List.Mem.tail _ (List.Mem.tail _ (List.Mem.head _))), (List.forall_mem_cons.mpr ⟨(List.Mem.tail _ (List.Mem.tail _ (List.Mem.tail _ (List.Mem.head _)))), (List.forall_mem_cons.mpr ⟨(List.Mem.tail _ (List.Mem.tail _ (List.Mem.tail _ (List.Mem.tail _ (List.Mem.head _))))), (fun q h => absurd h List.not_mem_nil)⟩)⟩)⟩)⟩)⟩) (hk A _ Is20 JRLx_s20 JFEQ_s20 JREQ_s20 JSEQ_s20 JARJ_s20 jb23 (by first | exact oq_f34933ba ws20_89 ws17_89 p1 b16.1 | omega) (by first | exact oq_d7ce4408 ws20_12 ws17_12 p2 | omega) (by first | exact oq_5bcdc35f ws20_74 ws20_0 ws17_74 ws17_0 p3 | omega) (by first | exact oq_5bcdc35f ws20_90 ws20_9 ws17_90 ws17_9 p4 | omega) (by first | (clear hps20 hps17; omega) | (clear hps17; omega) | omega) (by first | exact oq_5bcdc35f ws20_97 ws20_28 ws17_97 ws17_28 p6 | omega) (by first | exact oq_5bcdc35f ws20_99 ws20_32 ws17_99 ws17_32 p7 | omega) (by first | exact oq_5bcdc35f ws20_107 ws20_70 ws17_107 ws17_70 p8 | omega) (by first | exact oq_5bc06b03 ws20_83 ws20_12 ws17_83 p9 ws17_12 | omega))
    ·
      exfalso
      omega
  ·
    rcases hps20 with mm | mm
    ·
      exfalso
      omega
    ·
      have jb24 : PTJ s20 := ⟨JPMJ_s20, aeq_sam jPTJ.2.1 (sam_ts cc.2.2.2 (sam_fm Fs20 (by decide +kernel))) (sam_ts (sam_fm Fs17 (by decide +kernel)) mm.2.2.2.2), JALJ_s20, mkj_s jPTJ.2.2.2 (by first | (clear hps20 hps17; omega) | (clear hps17; omega) | omega) (sam_ts (sam_fm Fs17 (by decide +kernel) : SAM 25 _ _) (sam_fm Fs20 (by decide +kernel))) (fun k j hk => ((fun k j hk => fm_c Fs20 ((by decide +kernel : ∀ i, i < 4 → 241 + i ∉ _) k hk)) k j hk).trans ((fun k j hk => fm_c Fs17 ((by decide +kernel : ∀ i, i < 4 → 241 + i ∉ _) k hk)) k j hk))⟩
      refine w_pop X.1 (ax_d X (show cdA 350 1837 = some (.pop, 1, 0, 0, 0) from rfl)) rfl (z_goto X (t := 1866) rfl rfl (w_widen (ce' := ce + 29) (sl' := sl + 222) (by first | exact Nat.le_add_right _ _ | exact Nat.add_le_add_left (by decide) _ | omega) (by first | exact Nat.le_add_right _ _ | exact Nat.add_le_add_left (by decide) _ | omega) ?_))
      exact WS_lv (lv := [(0, .ref q1), (1, .ref (A 0)), (2, .ref (A 179)), (3, .ref (A 517)), (4, .int (Int32.ofInt i))]) (List.forall_mem_cons.mpr ⟨(List.Mem.head _), (List.forall_mem_cons.mpr ⟨(List.Mem.tail _ (List.Mem.head _)), (List.forall_mem_cons.mpr ⟨(List.Mem.tail _ (List.Mem.tail _ (List.Mem.head _))), (List.forall_mem_cons.mpr ⟨(List.Mem.tail _ (List.Mem.tail _ (List.Mem.tail _ (List.Mem.head _)))), (List.forall_mem_cons.mpr ⟨(List.Mem.tail _ (List.Mem.tail _ (List.Mem.tail _ (List.Mem.tail _ (List.Mem.head _))))), (fun q h => absurd h List.not_mem_nil)⟩)⟩)⟩)⟩)⟩) (hk A _ Is20 JRLx_s20 JFEQ_s20 JREQ_s20 JSEQ_s20 JARJ_s20 jb24 (by first | exact oq_f34933ba ws20_89 ws17_89 p1 b16.1 | omega) (by first | exact oq_d7ce4408 ws20_12 ws17_12 p2 | omega) (by first | exact oq_5bcdc35f ws20_74 ws20_0 ws17_74 ws17_0 p3 | omega) (by first | exact oq_5bcdc35f ws20_90 ws20_9 ws17_90 ws17_9 p4 | omega) (by first | (clear hps20 hps17; omega) | (clear hps17; omega) | omega) (by first | exact oq_5bcdc35f ws20_97 ws20_28 ws17_97 ws17_28 p6 | omega) (by first | exact oq_5bcdc35f ws20_99 ws20_32 ws17_99 ws17_32 p7 | omega) (by first | exact oq_5bcdc35f ws20_107 ws20_70 ws17_107 ws17_70 p8 | omega) (by first | exact oq_5bc06b03 ws20_83 ws20_12 ws17_83 p9 ws17_12 | omega))
theorem lc_43 (G : GX l s0 D tys a0 dT) (GR : RS0 s0) (SF : SF0 s0) (GT : TXs0 s0) (GW : TXw0 s0) {k : kx_T} (X : AX k 350 dT) (E : kL k = l ∧ kS0 k = s0 ∧ kD k = D ∧ kR k = room_1) {q1 L : Nat} {xs : Nat → Int32} (S : SX k q1 L xs) (hL : L ≤ 3072) (I : Bd s) (jR : RLx s) (jFEQ : FEQ s) (jREQ : REQ 39 234 28 s) (jSEQ : SEQ s) (jARJ : ARJ s) (jPTJ : PTJ s) (p1 : iI s 89 = 1) (p2 : iI s 12 ≤ 8) (p3 : iI s 0 = iI s 74) (p4 : iI s 9 = iI s 90) (p5 : iI s 20 = iI s 98) (p6 : iI s 28 = iI s 97) (p7 : iI s 32 = iI s 99) (p8 : iI s 70 = iI s 107) (p9 : iI s 12 = iI s 83) {i : Int} (hi : 0 ≤ i ∧ i + 6 ≤ (L : Int)) {ce sl : Nat} (hce : ce + 29 ≤ 601024) (hsl : sl + 222 ≤ 7293034) (hk : ∀ (A : Nat → Nat) (t : PS), Bd t → RLx t → FEQ t → REQ 39 234 28 t → SEQ t → ARJ t → PTJ t → iI t 89 = 1 → iI t 12 ≤ 8 → iI t 0 = iI t 74 → iI t 9 = iI t 90 → iI t 20 = iI t 98 → iI t 28 = iI t 97 → iI t 32 = iI t 99 → iI t 70 = iI t 107 → iI t 12 = iI t 83 → WS k 1866 [(0, .ref q1), (1, .ref (A 0)), (2, .ref (A 179)), (3, .ref (A 517)), (4, .int (Int32.ofInt i))] [] (Wd A dT t) (ce + 29) (sl + 222)) : WS k 1841 [(0, .ref q1), (1, .ref (A 0)), (2, .ref (A 179)), (3, .ref (A 517)), (4, .int (Int32.ofInt i))] [] (Wd A dT s) ce sl := by
  have F : Fm [73] [] s s := fm_rf _ _ s
  have b1 := bi_0 I
  have b2 := bi_74 I
  have b3 := bi_9 I
  have b4 := bi_90 I
  have b5 := bi_20 I
  have b6 := bi_98 I
  have b7 := bi_28 I
  have b8 := bi_97 I
  have b9 := bi_32 I
  have b10 := bi_99 I
  have b11 := bi_70 I
  have b12 := bi_107 I
  have b13 := bi_12 I
  have b14 := bi_83 I
  have b15 := bi_12 I
  have b16 := bi_89 I
  refine z_aload_n X (x := A 0) rfl (List.Mem.tail _ (List.Mem.head _)) (z_aload_n X (x := q1) rfl (List.Mem.head _) (z_load X (x := i) rfl (List.Mem.tail _ (List.Mem.tail _ (List.Mem.tail _ (List.Mem.tail _ (List.Mem.head _))))) (z_const X rfl (z_add X rfl (z_sld X S hL rfl (show 0 ≤ (i + 1) ∧ (i + 1) < (L : Int) by first | exact sx_in hi (by decide) | omega) ?_)))))
  have sr17 : rng (sc xs (i + 1)) := sc_rng
  refine z_callV X 0 (rm := rmN 178) (As := [.int (Int32.ofInt (sc xs (i + 1)))]) (st := []) rfl rfl (by decide) rfl (by rw [E.1, E.2.1, E.2.2.1]; exact cs_count6 G I jPTJ.1 (by first | exact ⟨sr17.1, sr17.2⟩ | omega)) ⟨by rw [E.2.2.2]; exact (show 8 + 1 ≤ 2048 from oq_5bf2829b), by rw [E.2.2.2]; exact (show 8 + (2 + 11) + 143 ≤ 84000 from oq_ca72eefc), by rw [E.2.2.2]; exact (show ce + 0 ≤ 601024 by omega), by rw [E.2.2.2]; exact (show sl + 0 ≤ 7293034 by omega)⟩ (Nat.le_of_ble_eq_true rfl) (fun vv s18 hq => ?_) (fun ee s18 hq => ?_)
  rotate_left
  · obtain ⟨Is18, Fs18, e19, hv, hrs18, hps18⟩ := hq; cases hv
  obtain ⟨Is18, Fs18, e19, hv, hrs18, hps18⟩ := hq
  cases hv
  have JRLx_s18 : RLx s18 := RLx_fm Fs18 (by decide) jR
  have JFEQ_s18 : FEQ s18 := FEQ_fm Fs18 (by decide) jFEQ
  have JREQ_s18 : REQ 39 234 28 s18 := REQ_fm Fs18 (by decide) jREQ
  have JSEQ_s18 : SEQ s18 := SEQ_fm Fs18 (by decide) jSEQ
  have JARJ_s18 : ARJ s18 := ARJ_fm Fs18 ⟨by decide +kernel, by decide +kernel, by decide +kernel, by decide +kernel, by decide +kernel, by decide +kernel, by decide +kernel, by decide +kernel⟩ jARJ
  have JPTJ_s18 : PTJ s18 := PTJ_fm Fs18 (by decide +kernel) jPTJ
  have ws18_0 : iI s18 0 = iI s 0 := fm_iq Fs18 rfl
  have ws18_74 : iI s18 74 = iI s 74 := fm_iq Fs18 rfl
  have ws18_9 : iI s18 9 = iI s 9 := fm_iq Fs18 rfl
  have ws18_90 : iI s18 90 = iI s 90 := fm_iq Fs18 rfl
  have ws18_20 : iI s18 20 = iI s 20 := fm_iq Fs18 rfl
  have ws18_98 : iI s18 98 = iI s 98 := fm_iq Fs18 rfl
  have ws18_28 : iI s18 28 = iI s 28 := fm_iq Fs18 rfl
  have ws18_97 : iI s18 97 = iI s 97 := fm_iq Fs18 rfl
  have ws18_32 : iI s18 32 = iI s 32 := fm_iq Fs18 rfl
  have ws18_99 : iI s18 99 = iI s 99 := fm_iq Fs18 rfl
  have ws18_70 : iI s18 70 = iI s 70 := fm_iq Fs18 rfl
  have ws18_107 : iI s18 107 = iI s 107 := fm_iq Fs18 rfl
  have ws18_12 : iI s18 12 = iI s 12 := fm_iq Fs18 rfl
  have ws18_83 : iI s18 83 = iI s 83 := fm_iq Fs18 rfl
  have ws18_12 : iI s18 12 = iI s 12 := fm_iq Fs18 rfl
  have ws18_89 : iI s18 89 = iI s 89 := fm_iq Fs18 rfl
  have wos18 : iO s18 = iO s := fm_o Fs18 (by decide)
  show WS k 1851 [(0, .ref q1), (1, .ref (A 0)), (2, .ref (A 179)), (3, .ref (A 517)), (4, .int (Int32.ofInt i))] [.int (Int32.ofInt e19)] (Wd A dT s18) ce sl
  refine z_aload_n X (x := A 179) rfl (List.Mem.tail _ (List.Mem.tail _ (List.Mem.head _))) (z_aload_n X (x := q1) rfl (List.Mem.head _) (z_load X (x := i) rfl (List.Mem.tail _ (List.Mem.tail _ (List.Mem.tail _ (List.Mem.tail _ (List.Mem.head _))))) (z_const X rfl (z_add X rfl (z_sld X S hL rfl (show 0 ≤ (i + 1) ∧ (i + 1) < (L : Int) by first | exact sx_in hi (by decide) | omega) ?_)))))
  have sr20 : rng (sc xs (i + 1)) := sc_rng
  refine z_callV X 179 (rm := rmN 295) (As := [.int (Int32.ofInt (sc xs (i + 1)))]) (st := [.int (Int32.ofInt e19)]) rfl rfl (by decide) rfl (by rw [E.1, E.2.1, E.2.2.1]; exact k_count6 G Is18 (by first | exact ⟨sr20.1, sr20.2⟩ | omega)) ⟨by rw [E.2.2.2]; exact (show 7 + 1 ≤ 2048 from oq_4e6106eb), by rw [E.2.2.2]; exact (show 8 + (6 + 11) + 122 ≤ 84000 from oq_380e4f97), by rw [E.2.2.2]; exact (show ce + 0 ≤ 601024 by omega), by rw [E.2.2.2]; exact (show sl + 0 ≤ 7293034 by omega)⟩ (Nat.le_of_ble_eq_true rfl) (fun vv s21 hq => ?_) (fun ee s21 hq => ?_)
  rotate_left
  · obtain ⟨Is21, Fs21, e22, hv, hrs21, hps21⟩ := hq; cases hv
  obtain ⟨Is21, Fs21, e22, hv, hrs21, hps21⟩ := hq
  cases hv
  have JRLx_s21 : RLx s21 := RLx_fm Fs21 (by decide) JRLx_s18
  have JFEQ_s21 : FEQ s21 := FEQ_fm Fs21 (by decide) JFEQ_s18
  have JREQ_s21 : REQ 39 234 28 s21 := REQ_fm Fs21 (by decide) JREQ_s18
  have JSEQ_s21 : SEQ s21 := SEQ_fm Fs21 (by decide) JSEQ_s18
  have JARJ_s21 : ARJ s21 := ARJ_fm Fs21 ⟨by decide +kernel, by decide +kernel, by decide +kernel, by decide +kernel, by decide +kernel, by decide +kernel, by decide +kernel, by decide +kernel⟩ JARJ_s18
  have JPTJ_s21 : PTJ s21 := PTJ_fm Fs21 (by decide +kernel) JPTJ_s18
  have ws21_0 : iI s21 0 = iI s18 0 := fm_iq Fs21 rfl
  have ws21_74 : iI s21 74 = iI s18 74 := fm_iq Fs21 rfl
  have ws21_9 : iI s21 9 = iI s18 9 := fm_iq Fs21 rfl
  have ws21_90 : iI s21 90 = iI s18 90 := fm_iq Fs21 rfl
  have ws21_20 : iI s21 20 = iI s18 20 := fm_iq Fs21 rfl
  have ws21_98 : iI s21 98 = iI s18 98 := fm_iq Fs21 rfl
  have ws21_28 : iI s21 28 = iI s18 28 := fm_iq Fs21 rfl
  have ws21_97 : iI s21 97 = iI s18 97 := fm_iq Fs21 rfl
  have ws21_32 : iI s21 32 = iI s18 32 := fm_iq Fs21 rfl
  have ws21_99 : iI s21 99 = iI s18 99 := fm_iq Fs21 rfl
  have ws21_70 : iI s21 70 = iI s18 70 := fm_iq Fs21 rfl
  have ws21_107 : iI s21 107 = iI s18 107 := fm_iq Fs21 rfl
  have ws21_12 : iI s21 12 = iI s18 12 := fm_iq Fs21 rfl
  have ws21_83 : iI s21 83 = iI s18 83 := fm_iq Fs21 rfl
  have ws21_12 : iI s21 12 = iI s18 12 := fm_iq Fs21 rfl
  have ws21_89 : iI s21 89 = iI s18 89 := fm_iq Fs21 rfl
  have wos21 : iO s21 = iO s18 := fm_o Fs21 (by decide)
  show WS k 1861 [(0, .ref q1), (1, .ref (A 0)), (2, .ref (A 179)), (3, .ref (A 517)), (4, .int (Int32.ofInt i))] [.int (Int32.ofInt e22), .int (Int32.ofInt e19)] (Wd A dT s21) ce sl
  have cc := hps18
  ·
    have mm := hps21
    ·
      have rq23 := cnq_eq cc mm.1 (by omega) (by omega) (pcn_eq (fun j hj => (jPTJ.2.1 j hj).trans ((sam_fm Fs18 (by decide +kernel) : SAM 228 _ _) j).symm)) (shn_eq (fun j hj => (jPTJ.2.1 j hj).trans ((sam_fm Fs18 (by decide +kernel) : SAM 228 _ _) j).symm)) (by omega) (by omega) (by omega) ((sto_cnt jSEQ (fun c hc => I.2 399 c hc)).trans (sm_eq (fun c hc => (fm_c Fs18 (by decide +kernel) : iC s18 399 c = iC s 399 c).symm))) (by omega) (by omega)
      refine z_icmp_eq X (t := 1866) rfl rfl hrs18 hrs21 (fun g24 => ?_) (fun g24 => ?_)
      ·
        refine w_widen (ce' := ce + 29) (sl' := sl + 222) (by first | exact Nat.le_add_right _ _ | exact Nat.add_le_add_left (by decide) _ | omega) (by first | exact Nat.le_add_right _ _ | exact Nat.add_le_add_left (by decide) _ | omega) ?_
        exact WS_lv (lv := [(0, .ref q1), (1, .ref (A 0)), (2, .ref (A 179)), (3, .ref (A 517)), (4, .int (Int32.ofInt i))]) (List.forall_mem_cons.mpr ⟨(List.Mem.head _), (List.forall_mem_cons.mpr ⟨(List.Mem.tail _ (List.Mem.head _)), (List.forall_mem_cons.mpr ⟨(List.Mem.tail _ (List.Mem.tail _ (List.Mem.head _))), (List.forall_mem_cons.mpr ⟨(List.Mem.tail _ (List.Mem.tail _ (List.Mem.tail _ (List.Mem.head _)))), (List.forall_mem_cons.mpr ⟨(List.Mem.tail _ (List.Mem.tail _ (List.Mem.tail _ (List.Mem.tail _ (List.Mem.head _))))), (fun q h => absurd h List.not_mem_nil)⟩)⟩)⟩)⟩)⟩) (hk A _ Is21 JRLx_s21 JFEQ_s21 JREQ_s21 JSEQ_s21 JARJ_s21 JPTJ_s21 (by first | exact oq_f34933ba ws21_89 ws18_89 p1 b16.1 | omega) (by first | exact oq_d7ce4408 ws21_12 ws18_12 p2 | omega) (by first | exact oq_5bcdc35f ws21_74 ws21_0 ws18_74 ws18_0 p3 | omega) (by first | exact oq_5bcdc35f ws21_90 ws21_9 ws18_90 ws18_9 p4 | omega) (by first | exact oq_5bcdc35f ws21_98 ws21_20 ws18_98 ws18_20 p5 | omega) (by first | exact oq_5bcdc35f ws21_97 ws21_28 ws18_97 ws18_28 p6 | omega) (by first | exact oq_5bcdc35f ws21_99 ws21_32 ws18_99 ws18_32 p7 | omega) (by first | exact oq_5bcdc35f ws21_107 ws21_70 ws18_107 ws18_70 p8 | omega) (by first | exact oq_5bc06b03 ws21_83 ws21_12 ws18_83 p9 ws18_12 | omega))
      ·
        exfalso
        omega
theorem law_head (G : GX l s0 D tys a0 dT) (GR : RS0 s0) (SF : SF0 s0) (GT : TXs0 s0) (GW : TXw0 s0) {k : kx_T} (X : AX k 350 dT) (E : kL k = l ∧ kS0 k = s0 ∧ kD k = D ∧ kR k = room_1) {q1 L : Nat} {xs : Nat → Int32} (S : SX k q1 L xs) (hL : L ≤ 3072) (hRt : (kMe k).sig.returnType = some .boolean) (q : kx_end k K0 601024 7293034) : ∀ (n m : Nat) (A : Nat → Nat) (s : PS), Bd s → RLx s → FEQ s → REQ 39 234 28 s → SEQ s → ARJ s → PTJ s → iI s 89 = 1 → iI s 12 ≤ 8 → iI s 0 = iI s 74 → iI s 9 = iI s 90 → iI s 20 = iI s 98 → iI s 28 = iI s 97 → iI s 32 = iI s 99 → iI s 70 = iI s 107 → iI s 12 = iI s 83 → (L : Int) ≤ 6 * ((m + n : Nat) : Int) + 5 → m ≤ 512 → WS k 23 [(0, .ref q1), (1, .ref (A 0)), (2, .ref (A 179)), (3, .ref (A 517)), (4, .int (Int32.ofInt (6 * (m : Int))))] [] (Wd A dT s) (518 + 29 * m) (23524 + 222 * m) := by
  intro n
  induction n with
  | zero =>
    intro m A s I jR jFEQ jREQ jSEQ jARJ jPTJ p1 p2 p3 p4 p5 p6 p7 p8 p9 hn hm
    refine z_load X (x := (6 * (m : Int))) rfl (List.Mem.tail _ (List.Mem.tail _ (List.Mem.tail _ (List.Mem.tail _ (List.Mem.head _))))) (z_aload_n X (x := q1) rfl (List.Mem.head _) (z_slen X S hL rfl (z_bipush X rfl (z_sub X rfl (z_icmp_gt X (t := 1872) rfl rfl ⟨by omega, by omega⟩ ⟨by omega, by omega⟩ (fun g1 => ?_) (fun g1 => ?_))))))
    ·
      refine z_const X rfl ?_
      exact w_iret X.1 q hRt (nar_ret (Or.inr rfl)) (ax_d X (show cdA 350 1873 = some (.ireturn, 1, 0, 0, 0) from rfl)) (by omega) (by omega) rfl
    ·
      exfalso
      omega
  | succ n ih =>
    intro m A s I jR jFEQ jREQ jSEQ jARJ jPTJ p1 p2 p3 p4 p5 p6 p7 p8 p9 hn hm
    refine z_load X (x := (6 * (m : Int))) rfl (List.Mem.tail _ (List.Mem.tail _ (List.Mem.tail _ (List.Mem.tail _ (List.Mem.head _))))) (z_aload_n X (x := q1) rfl (List.Mem.head _) (z_slen X S hL rfl (z_bipush X rfl (z_sub X rfl (z_icmp_gt X (t := 1872) rfl rfl ⟨by omega, by omega⟩ ⟨by omega, by omega⟩ (fun g1 => ?_) (fun g1 => ?_))))))
    ·
      refine z_const X rfl ?_
      exact w_iret X.1 q hRt (nar_ret (Or.inr rfl)) (ax_d X (show cdA 350 1873 = some (.ireturn, 1, 0, 0, 0) from rfl)) (by omega) (by omega) rfl
    ·
      have hk : ∀ (A : Nat → Nat) (t : PS), Bd t → RLx t → FEQ t → REQ 39 234 28 t → SEQ t → ARJ t → PTJ t → iI t 89 = 1 → iI t 12 ≤ 8 → iI t 0 = iI t 74 → iI t 9 = iI t 90 → iI t 20 = iI t 98 → iI t 28 = iI t 97 → iI t 32 = iI t 99 → iI t 70 = iI t 107 → iI t 12 = iI t 83 → WS k 1866 [(0, .ref q1), (1, .ref (A 0)), (2, .ref (A 179)), (3, .ref (A 517)), (4, .int (Int32.ofInt (6 * (m : Int))))] [] (Wd A dT t) (518 + 29 * m + 29) (23524 + 222 * m + 222) := by
        intro A t I jR jFEQ jREQ jSEQ jARJ jPTJ p1 p2 p3 p4 p5 p6 p7 p8 p9
        refine z_inc X (x := (6 * (m : Int))) (lv' := [(4, .int (Int32.ofInt (6 * (m : Int) + 6))), (0, .ref q1), (1, .ref (A 0)), (2, .ref (A 179)), (3, .ref (A 517))]) rfl (by decide) (List.Mem.tail _ (List.Mem.tail _ (List.Mem.tail _ (List.Mem.tail _ (List.Mem.head _))))) (fun _ h => h) (z_goto X (t := 23) rfl rfl ?_)
        have e6 : (6 * (m : Int) + 6) = 6 * ((m + 1 : Nat) : Int) := by omega
        rw [e6]
        refine WS_pq [1, 2, 3, 4, 0] (lv' := [(0, .ref q1), (1, .ref (A 0)), (2, .ref (A 179)), (3, .ref (A 517)), (4, .int (Int32.ofInt (6 * ((m + 1 : Nat) : Int))))]) rfl (w_widen (ce' := 518 + 29 * (m + 1)) (sl' := 23524 + 222 * (m + 1)) (by omega) (by omega) ?_)
        exact ih (m + 1) A t I jR jFEQ jREQ jSEQ jARJ jPTJ p1 p2 p3 p4 p5 p6 p7 p8 p9 (by omega) (by omega)
      refine z_aload_n X (x := q1) rfl (List.Mem.head _) (z_load X (x := (6 * (m : Int))) rfl (List.Mem.tail _ (List.Mem.tail _ (List.Mem.tail _ (List.Mem.tail _ (List.Mem.head _))))) (z_sld X S hL rfl (show 0 ≤ (6 * (m : Int)) ∧ (6 * (m : Int)) < (L : Int) by first | exact sx_in hi (by decide) | omega) ?_))
      have sr2 : rng (sc xs (6 * (m : Int))) := sc_rng
      refine z_bipush X rfl (z_andm X rfl (by decide) (by decide) (fun y3 hy3 gy3 => ?_))
      rcases (show y3 = 0 ∨ y3 = 1 ∨ y3 = 2 ∨ y3 = 3 ∨ y3 = 4 ∨ y3 = 5 ∨ y3 = 6 ∨ y3 = 7 ∨ y3 = 8 ∨ y3 = 9 ∨ y3 = 10 ∨ y3 = 11 ∨ y3 = 12 ∨ y3 = 13 ∨ y3 = 14 ∨ y3 = 15 ∨ y3 = 16 ∨ y3 = 17 ∨ y3 = 18 ∨ y3 = 19 ∨ y3 = 20 ∨ y3 = 21 ∨ y3 = 22 ∨ y3 = 23 ∨ y3 = 24 ∨ y3 = 25 ∨ y3 = 26 ∨ y3 = 27 ∨ y3 = 28 ∨ y3 = 29 ∨ y3 = 30 ∨ y3 = 31 ∨ y3 = 32 ∨ y3 = 33 ∨ y3 = 34 ∨ y3 = 35 ∨ y3 = 36 ∨ y3 = 37 ∨ y3 = 38 ∨ y3 = 39 ∨ y3 = 40 ∨ y3 = 41 ∨ y3 = 42 ∨ y3 = 43 ∨ (y3 < 0 ∨ 43 < y3) by omega) with gs | gs | gs | gs | gs | gs | gs | gs | gs | gs | gs | gs | gs | gs | gs | gs | gs | gs | gs | gs | gs | gs | gs | gs | gs | gs | gs | gs | gs | gs | gs | gs | gs | gs | gs | gs | gs | gs | gs | gs | gs | gs | gs | gs | gs
      ·
        rw [gs]
        refine w_tabIn X.1 (dflt := 1826) (lo := 0) (hi := 43) (offs := #[192, 265, 293, 321, 334, 374, 435, 484, 524, 564, 616, 656, 708, 748, 776, 816, 844, 872, 900, 913, 926, 954, 982, 1010, 1050, 1063, 1091, 1131, 1159, 1199, 1239, 1279, 1331, 1371, 1399, 1455, 1519, 1599, 1627, 1707, 1747, 1775, 1788, 1801]) (len := 192) (off := 192) (t := 232) (ax_d X (show cdA 350 40 = some (.tableswitch 1826 0 43 #[192, 265, 293, 321, 334, 374, 435, 484, 524, 564, 616, 656, 708, 748, 776, 816, 844, 872, 900, 913, 926, 954, 982, 1010, 1050, 1063, 1091, 1131, 1159, 1199, 1239, 1279, 1331, 1371, 1399, 1455, 1519, 1599, 1627, 1707, 1747, 1775, 1788, 1801], 192, 0, 0, 0) from rfl)) (by decide) (by decide) (by decide) (by decide) ?_
        exact lc_0 G GR SF GT GW X E S hL I jR jFEQ jREQ jSEQ jARJ jPTJ p1 p2 p3 p4 p5 p6 p7 p8 p9 (by omega) (by omega) (by omega) hk
      ·
        rw [gs]
        refine w_tabIn X.1 (dflt := 1826) (lo := 0) (hi := 43) (offs := #[192, 265, 293, 321, 334, 374, 435, 484, 524, 564, 616, 656, 708, 748, 776, 816, 844, 872, 900, 913, 926, 954, 982, 1010, 1050, 1063, 1091, 1131, 1159, 1199, 1239, 1279, 1331, 1371, 1399, 1455, 1519, 1599, 1627, 1707, 1747, 1775, 1788, 1801]) (len := 192) (off := 265) (t := 305) (ax_d X (show cdA 350 40 = some (.tableswitch 1826 0 43 #[192, 265, 293, 321, 334, 374, 435, 484, 524, 564, 616, 656, 708, 748, 776, 816, 844, 872, 900, 913, 926, 954, 982, 1010, 1050, 1063, 1091, 1131, 1159, 1199, 1239, 1279, 1331, 1371, 1399, 1455, 1519, 1599, 1627, 1707, 1747, 1775, 1788, 1801], 192, 0, 0, 0) from rfl)) (by decide) (by decide) (by decide) (by decide) ?_
        exact lc_1 G GR SF GT GW X E S hL I jR jFEQ jREQ jSEQ jARJ jPTJ p1 p2 p3 p4 p5 p6 p7 p8 p9 (by omega) (by omega) (by omega) hk
      ·
        rw [gs]
        refine w_tabIn X.1 (dflt := 1826) (lo := 0) (hi := 43) (offs := #[192, 265, 293, 321, 334, 374, 435, 484, 524, 564, 616, 656, 708, 748, 776, 816, 844, 872, 900, 913, 926, 954, 982, 1010, 1050, 1063, 1091, 1131, 1159, 1199, 1239, 1279, 1331, 1371, 1399, 1455, 1519, 1599, 1627, 1707, 1747, 1775, 1788, 1801]) (len := 192) (off := 293) (t := 333) (ax_d X (show cdA 350 40 = some (.tableswitch 1826 0 43 #[192, 265, 293, 321, 334, 374, 435, 484, 524, 564, 616, 656, 708, 748, 776, 816, 844, 872, 900, 913, 926, 954, 982, 1010, 1050, 1063, 1091, 1131, 1159, 1199, 1239, 1279, 1331, 1371, 1399, 1455, 1519, 1599, 1627, 1707, 1747, 1775, 1788, 1801], 192, 0, 0, 0) from rfl)) (by decide) (by decide) (by decide) (by decide) ?_
        exact lc_2 G GR SF GT GW X E S hL I jR jFEQ jREQ jSEQ jARJ jPTJ p1 p2 p3 p4 p5 p6 p7 p8 p9 (by omega) (by omega) (by omega) hk
      ·
        rw [gs]
        refine w_tabIn X.1 (dflt := 1826) (lo := 0) (hi := 43) (offs := #[192, 265, 293, 321, 334, 374, 435, 484, 524, 564, 616, 656, 708, 748, 776, 816, 844, 872, 900, 913, 926, 954, 982, 1010, 1050, 1063, 1091, 1131, 1159, 1199, 1239, 1279, 1331, 1371, 1399, 1455, 1519, 1599, 1627, 1707, 1747, 1775, 1788, 1801]) (len := 192) (off := 321) (t := 361) (ax_d X (show cdA 350 40 = some (.tableswitch 1826 0 43 #[192, 265, 293, 321, 334, 374, 435, 484, 524, 564, 616, 656, 708, 748, 776, 816, 844, 872, 900, 913, 926, 954, 982, 1010, 1050, 1063, 1091, 1131, 1159, 1199, 1239, 1279, 1331, 1371, 1399, 1455, 1519, 1599, 1627, 1707, 1747, 1775, 1788, 1801], 192, 0, 0, 0) from rfl)) (by decide) (by decide) (by decide) (by decide) ?_
        exact lc_3 G GR SF GT GW X E S hL I jR jFEQ jREQ jSEQ jARJ jPTJ p1 p2 p3 p4 p5 p6 p7 p8 p9 (by omega) (by omega) (by omega) hk
      ·
        rw [gs]
        refine w_tabIn X.1 (dflt := 1826) (lo := 0) (hi := 43) (offs := #[192, 265, 293, 321, 334, 374, 435, 484, 524, 564, 616, 656, 708, 748, 776, 816, 844, 872, 900, 913, 926, 954, 982, 1010, 1050, 1063, 1091, 1131, 1159, 1199, 1239, 1279, 1331, 1371, 1399, 1455, 1519, 1599, 1627, 1707, 1747, 1775, 1788, 1801]) (len := 192) (off := 334) (t := 374) (ax_d X (show cdA 350 40 = some (.tableswitch 1826 0 43 #[192, 265, 293, 321, 334, 374, 435, 484, 524, 564, 616, 656, 708, 748, 776, 816, 844, 872, 900, 913, 926, 954, 982, 1010, 1050, 1063, 1091, 1131, 1159, 1199, 1239, 1279, 1331, 1371, 1399, 1455, 1519, 1599, 1627, 1707, 1747, 1775, 1788, 1801], 192, 0, 0, 0) from rfl)) (by decide) (by decide) (by decide) (by decide) ?_
        exact lc_4 G GR SF GT GW X E S hL I jR jFEQ jREQ jSEQ jARJ jPTJ p1 p2 p3 p4 p5 p6 p7 p8 p9 (by omega) (by omega) (by omega) hk
      ·
        rw [gs]
        refine w_tabIn X.1 (dflt := 1826) (lo := 0) (hi := 43) (offs := #[192, 265, 293, 321, 334, 374, 435, 484, 524, 564, 616, 656, 708, 748, 776, 816, 844, 872, 900, 913, 926, 954, 982, 1010, 1050, 1063, 1091, 1131, 1159, 1199, 1239, 1279, 1331, 1371, 1399, 1455, 1519, 1599, 1627, 1707, 1747, 1775, 1788, 1801]) (len := 192) (off := 374) (t := 414) (ax_d X (show cdA 350 40 = some (.tableswitch 1826 0 43 #[192, 265, 293, 321, 334, 374, 435, 484, 524, 564, 616, 656, 708, 748, 776, 816, 844, 872, 900, 913, 926, 954, 982, 1010, 1050, 1063, 1091, 1131, 1159, 1199, 1239, 1279, 1331, 1371, 1399, 1455, 1519, 1599, 1627, 1707, 1747, 1775, 1788, 1801], 192, 0, 0, 0) from rfl)) (by decide) (by decide) (by decide) (by decide) ?_
        exact lc_5 G GR SF GT GW X E S hL I jR jFEQ jREQ jSEQ jARJ jPTJ p1 p2 p3 p4 p5 p6 p7 p8 p9 (by omega) (by omega) (by omega) hk
      ·
        rw [gs]
        refine w_tabIn X.1 (dflt := 1826) (lo := 0) (hi := 43) (offs := #[192, 265, 293, 321, 334, 374, 435, 484, 524, 564, 616, 656, 708, 748, 776, 816, 844, 872, 900, 913, 926, 954, 982, 1010, 1050, 1063, 1091, 1131, 1159, 1199, 1239, 1279, 1331, 1371, 1399, 1455, 1519, 1599, 1627, 1707, 1747, 1775, 1788, 1801]) (len := 192) (off := 435) (t := 475) (ax_d X (show cdA 350 40 = some (.tableswitch 1826 0 43 #[192, 265, 293, 321, 334, 374, 435, 484, 524, 564, 616, 656, 708, 748, 776, 816, 844, 872, 900, 913, 926, 954, 982, 1010, 1050, 1063, 1091, 1131, 1159, 1199, 1239, 1279, 1331, 1371, 1399, 1455, 1519, 1599, 1627, 1707, 1747, 1775, 1788, 1801], 192, 0, 0, 0) from rfl)) (by decide) (by decide) (by decide) (by decide) ?_
        exact lc_6 G GR SF GT GW X E S hL I jR jFEQ jREQ jSEQ jARJ jPTJ p1 p2 p3 p4 p5 p6 p7 p8 p9 (by omega) (by omega) (by omega) hk
      ·
        rw [gs]
        refine w_tabIn X.1 (dflt := 1826) (lo := 0) (hi := 43) (offs := #[192, 265, 293, 321, 334, 374, 435, 484, 524, 564, 616, 656, 708, 748, 776, 816, 844, 872, 900, 913, 926, 954, 982, 1010, 1050, 1063, 1091, 1131, 1159, 1199, 1239, 1279, 1331, 1371, 1399, 1455, 1519, 1599, 1627, 1707, 1747, 1775, 1788, 1801]) (len := 192) (off := 484) (t := 524) (ax_d X (show cdA 350 40 = some (.tableswitch 1826 0 43 #[192, 265, 293, 321, 334, 374, 435, 484, 524, 564, 616, 656, 708, 748, 776, 816, 844, 872, 900, 913, 926, 954, 982, 1010, 1050, 1063, 1091, 1131, 1159, 1199, 1239, 1279, 1331, 1371, 1399, 1455, 1519, 1599, 1627, 1707, 1747, 1775, 1788, 1801], 192, 0, 0, 0) from rfl)) (by decide) (by decide) (by decide) (by decide) ?_
        exact lc_7 G GR SF GT GW X E S hL I jR jFEQ jREQ jSEQ jARJ jPTJ p1 p2 p3 p4 p5 p6 p7 p8 p9 (by omega) (by omega) (by omega) hk
      ·
        rw [gs]
        refine w_tabIn X.1 (dflt := 1826) (lo := 0) (hi := 43) (offs := #[192, 265, 293, 321, 334, 374, 435, 484, 524, 564, 616, 656, 708, 748, 776, 816, 844, 872, 900, 913, 926, 954, 982, 1010, 1050, 1063, 1091, 1131, 1159, 1199, 1239, 1279, 1331, 1371, 1399, 1455, 1519, 1599, 1627, 1707, 1747, 1775, 1788, 1801]) (len := 192) (off := 524) (t := 564) (ax_d X (show cdA 350 40 = some (.tableswitch 1826 0 43 #[192, 265, 293, 321, 334, 374, 435, 484, 524, 564, 616, 656, 708, 748, 776, 816, 844, 872, 900, 913, 926, 954, 982, 1010, 1050, 1063, 1091, 1131, 1159, 1199, 1239, 1279, 1331, 1371, 1399, 1455, 1519, 1599, 1627, 1707, 1747, 1775, 1788, 1801], 192, 0, 0, 0) from rfl)) (by decide) (by decide) (by decide) (by decide) ?_
        exact lc_8 G GR SF GT GW X E S hL I jR jFEQ jREQ jSEQ jARJ jPTJ p1 p2 p3 p4 p5 p6 p7 p8 p9 (by omega) (by omega) (by omega) hk
      ·
        rw [gs]
        refine w_tabIn X.1 (dflt := 1826) (lo := 0) (hi := 43) (offs := #[192, 265, 293, 321, 334, 374, 435, 484, 524, 564, 616, 656, 708, 748, 776, 816, 844, 872, 900, 913, 926, 954, 982, 1010, 1050, 1063, 1091, 1131, 1159, 1199, 1239, 1279, 1331, 1371, 1399, 1455, 1519, 1599, 1627, 1707, 1747, 1775, 1788, 1801]) (len := 192) (off := 564) (t := 604) (ax_d X (show cdA 350 40 = some (.tableswitch 1826 0 43 #[192, 265, 293, 321, 334, 374, 435, 484, 524, 564, 616, 656, 708, 748, 776, 816, 844, 872, 900, 913, 926, 954, 982, 1010, 1050, 1063, 1091, 1131, 1159, 1199, 1239, 1279, 1331, 1371, 1399, 1455, 1519, 1599, 1627, 1707, 1747, 1775, 1788, 1801], 192, 0, 0, 0) from rfl)) (by decide) (by decide) (by decide) (by decide) ?_
        exact lc_9 G GR SF GT GW X E S hL I jR jFEQ jREQ jSEQ jARJ jPTJ p1 p2 p3 p4 p5 p6 p7 p8 p9 (by omega) (by omega) (by omega) hk
      ·
        rw [gs]
        refine w_tabIn X.1 (dflt := 1826) (lo := 0) (hi := 43) (offs := #[192, 265, 293, 321, 334, 374, 435, 484, 524, 564, 616, 656, 708, 748, 776, 816, 844, 872, 900, 913, 926, 954, 982, 1010, 1050, 1063, 1091, 1131, 1159, 1199, 1239, 1279, 1331, 1371, 1399, 1455, 1519, 1599, 1627, 1707, 1747, 1775, 1788, 1801]) (len := 192) (off := 616) (t := 656) (ax_d X (show cdA 350 40 = some (.tableswitch 1826 0 43 #[192, 265, 293, 321, 334, 374, 435, 484, 524, 564, 616, 656, 708, 748, 776, 816, 844, 872, 900, 913, 926, 954, 982, 1010, 1050, 1063, 1091, 1131, 1159, 1199, 1239, 1279, 1331, 1371, 1399, 1455, 1519, 1599, 1627, 1707, 1747, 1775, 1788, 1801], 192, 0, 0, 0) from rfl)) (by decide) (by decide) (by decide) (by decide) ?_
        exact lc_10 G GR SF GT GW X E S hL I jR jFEQ jREQ jSEQ jARJ jPTJ p1 p2 p3 p4 p5 p6 p7 p8 p9 (by omega) (by omega) (by omega) hk
      ·
        rw [gs]
        refine w_tabIn X.1 (dflt := 1826) (lo := 0) (hi := 43) (offs := #[192, 265, 293, 321, 334, 374, 435, 484, 524, 564, 616, 656, 708, 748, 776, 816, 844, 872, 900, 913, 926, 954, 982, 1010, 1050, 1063, 1091, 1131, 1159, 1199, 1239, 1279, 1331, 1371, 1399, 1455, 1519, 1599, 1627, 1707, 1747, 1775, 1788, 1801]) (len := 192) (off := 656) (t := 696) (ax_d X (show cdA 350 40 = some (.tableswitch 1826 0 43 #[192, 265, 293, 321, 334, 374, 435, 484, 524, 564, 616, 656, 708, 748, 776, 816, 844, 872, 900, 913, 926, 954, 982, 1010, 1050, 1063, 1091, 1131, 1159, 1199, 1239, 1279, 1331, 1371, 1399, 1455, 1519, 1599, 1627, 1707, 1747, 1775, 1788, 1801], 192, 0, 0, 0) from rfl)) (by decide) (by decide) (by decide) (by decide) ?_
        exact lc_11 G GR SF GT GW X E S hL I jR jFEQ jREQ jSEQ jARJ jPTJ p1 p2 p3 p4 p5 p6 p7 p8 p9 (by omega) (by omega) (by omega) hk
      ·
        rw [gs]
        refine w_tabIn X.1 (dflt := 1826) (lo := 0) (hi := 43) (offs := #[192, 265, 293, 321, 334, 374, 435, 484, 524, 564, 616, 656, 708, 748, 776, 816, 844, 872, 900, 913, 926, 954, 982, 1010, 1050, 1063, 1091, 1131, 1159, 1199, 1239, 1279, 1331, 1371, 1399, 1455, 1519, 1599, 1627, 1707, 1747, 1775, 1788, 1801]) (len := 192) (off := 708) (t := 748) (ax_d X (show cdA 350 40 = some (.tableswitch 1826 0 43 #[192, 265, 293, 321, 334, 374, 435, 484, 524, 564, 616, 656, 708, 748, 776, 816, 844, 872, 900, 913, 926, 954, 982, 1010, 1050, 1063, 1091, 1131, 1159, 1199, 1239, 1279, 1331, 1371, 1399, 1455, 1519, 1599, 1627, 1707, 1747, 1775, 1788, 1801], 192, 0, 0, 0) from rfl)) (by decide) (by decide) (by decide) (by decide) ?_
        exact lc_12 G GR SF GT GW X E S hL I jR jFEQ jREQ jSEQ jARJ jPTJ p1 p2 p3 p4 p5 p6 p7 p8 p9 (by omega) (by omega) (by omega) hk
      ·
        rw [gs]
        refine w_tabIn X.1 (dflt := 1826) (lo := 0) (hi := 43) (offs := #[192, 265, 293, 321, 334, 374, 435, 484, 524, 564, 616, 656, 708, 748, 776, 816, 844, 872, 900, 913, 926, 954, 982, 1010, 1050, 1063, 1091, 1131, 1159, 1199, 1239, 1279, 1331, 1371, 1399, 1455, 1519, 1599, 1627, 1707, 1747, 1775, 1788, 1801]) (len := 192) (off := 748) (t := 788) (ax_d X (show cdA 350 40 = some (.tableswitch 1826 0 43 #[192, 265, 293, 321, 334, 374, 435, 484, 524, 564, 616, 656, 708, 748, 776, 816, 844, 872, 900, 913, 926, 954, 982, 1010, 1050, 1063, 1091, 1131, 1159, 1199, 1239, 1279, 1331, 1371, 1399, 1455, 1519, 1599, 1627, 1707, 1747, 1775, 1788, 1801], 192, 0, 0, 0) from rfl)) (by decide) (by decide) (by decide) (by decide) ?_
        exact lc_13 G GR SF GT GW X E S hL I jR jFEQ jREQ jSEQ jARJ jPTJ p1 p2 p3 p4 p5 p6 p7 p8 p9 (by omega) (by omega) (by omega) hk
      ·
        rw [gs]
        refine w_tabIn X.1 (dflt := 1826) (lo := 0) (hi := 43) (offs := #[192, 265, 293, 321, 334, 374, 435, 484, 524, 564, 616, 656, 708, 748, 776, 816, 844, 872, 900, 913, 926, 954, 982, 1010, 1050, 1063, 1091, 1131, 1159, 1199, 1239, 1279, 1331, 1371, 1399, 1455, 1519, 1599, 1627, 1707, 1747, 1775, 1788, 1801]) (len := 192) (off := 776) (t := 816) (ax_d X (show cdA 350 40 = some (.tableswitch 1826 0 43 #[192, 265, 293, 321, 334, 374, 435, 484, 524, 564, 616, 656, 708, 748, 776, 816, 844, 872, 900, 913, 926, 954, 982, 1010, 1050, 1063, 1091, 1131, 1159, 1199, 1239, 1279, 1331, 1371, 1399, 1455, 1519, 1599, 1627, 1707, 1747, 1775, 1788, 1801], 192, 0, 0, 0) from rfl)) (by decide) (by decide) (by decide) (by decide) ?_
        exact lc_14 G GR SF GT GW X E S hL I jR jFEQ jREQ jSEQ jARJ jPTJ p1 p2 p3 p4 p5 p6 p7 p8 p9 (by omega) (by omega) (by omega) hk
      ·
        rw [gs]
        refine w_tabIn X.1 (dflt := 1826) (lo := 0) (hi := 43) (offs := #[192, 265, 293, 321, 334, 374, 435, 484, 524, 564, 616, 656, 708, 748, 776, 816, 844, 872, 900, 913, 926, 954, 982, 1010, 1050, 1063, 1091, 1131, 1159, 1199, 1239, 1279, 1331, 1371, 1399, 1455, 1519, 1599, 1627, 1707, 1747, 1775, 1788, 1801]) (len := 192) (off := 816) (t := 856) (ax_d X (show cdA 350 40 = some (.tableswitch 1826 0 43 #[192, 265, 293, 321, 334, 374, 435, 484, 524, 564, 616, 656, 708, 748, 776, 816, 844, 872, 900, 913, 926, 954, 982, 1010, 1050, 1063, 1091, 1131, 1159, 1199, 1239, 1279, 1331, 1371, 1399, 1455, 1519, 1599, 1627, 1707, 1747, 1775, 1788, 1801], 192, 0, 0, 0) from rfl)) (by decide) (by decide) (by decide) (by decide) ?_
        exact lc_15 G GR SF GT GW X E S hL I jR jFEQ jREQ jSEQ jARJ jPTJ p1 p2 p3 p4 p5 p6 p7 p8 p9 (by omega) (by omega) (by omega) hk
      ·
        rw [gs]
        refine w_tabIn X.1 (dflt := 1826) (lo := 0) (hi := 43) (offs := #[192, 265, 293, 321, 334, 374, 435, 484, 524, 564, 616, 656, 708, 748, 776, 816, 844, 872, 900, 913, 926, 954, 982, 1010, 1050, 1063, 1091, 1131, 1159, 1199, 1239, 1279, 1331, 1371, 1399, 1455, 1519, 1599, 1627, 1707, 1747, 1775, 1788, 1801]) (len := 192) (off := 844) (t := 884) (ax_d X (show cdA 350 40 = some (.tableswitch 1826 0 43 #[192, 265, 293, 321, 334, 374, 435, 484, 524, 564, 616, 656, 708, 748, 776, 816, 844, 872, 900, 913, 926, 954, 982, 1010, 1050, 1063, 1091, 1131, 1159, 1199, 1239, 1279, 1331, 1371, 1399, 1455, 1519, 1599, 1627, 1707, 1747, 1775, 1788, 1801], 192, 0, 0, 0) from rfl)) (by decide) (by decide) (by decide) (by decide) ?_
        exact lc_16 G GR SF GT GW X E S hL I jR jFEQ jREQ jSEQ jARJ jPTJ p1 p2 p3 p4 p5 p6 p7 p8 p9 (by omega) (by omega) (by omega) hk
      ·
        rw [gs]
        refine w_tabIn X.1 (dflt := 1826) (lo := 0) (hi := 43) (offs := #[192, 265, 293, 321, 334, 374, 435, 484, 524, 564, 616, 656, 708, 748, 776, 816, 844, 872, 900, 913, 926, 954, 982, 1010, 1050, 1063, 1091, 1131, 1159, 1199, 1239, 1279, 1331, 1371, 1399, 1455, 1519, 1599, 1627, 1707, 1747, 1775, 1788, 1801]) (len := 192) (off := 872) (t := 912) (ax_d X (show cdA 350 40 = some (.tableswitch 1826 0 43 #[192, 265, 293, 321, 334, 374, 435, 484, 524, 564, 616, 656, 708, 748, 776, 816, 844, 872, 900, 913, 926, 954, 982, 1010, 1050, 1063, 1091, 1131, 1159, 1199, 1239, 1279, 1331, 1371, 1399, 1455, 1519, 1599, 1627, 1707, 1747, 1775, 1788, 1801], 192, 0, 0, 0) from rfl)) (by decide) (by decide) (by decide) (by decide) ?_
        exact lc_17 G GR SF GT GW X E S hL I jR jFEQ jREQ jSEQ jARJ jPTJ p1 p2 p3 p4 p5 p6 p7 p8 p9 (by omega) (by omega) (by omega) hk
      ·
        rw [gs]
        refine w_tabIn X.1 (dflt := 1826) (lo := 0) (hi := 43) (offs := #[192, 265, 293, 321, 334, 374, 435, 484, 524, 564, 616, 656, 708, 748, 776, 816, 844, 872, 900, 913, 926, 954, 982, 1010, 1050, 1063, 1091, 1131, 1159, 1199, 1239, 1279, 1331, 1371, 1399, 1455, 1519, 1599, 1627, 1707, 1747, 1775, 1788, 1801]) (len := 192) (off := 900) (t := 940) (ax_d X (show cdA 350 40 = some (.tableswitch 1826 0 43 #[192, 265, 293, 321, 334, 374, 435, 484, 524, 564, 616, 656, 708, 748, 776, 816, 844, 872, 900, 913, 926, 954, 982, 1010, 1050, 1063, 1091, 1131, 1159, 1199, 1239, 1279, 1331, 1371, 1399, 1455, 1519, 1599, 1627, 1707, 1747, 1775, 1788, 1801], 192, 0, 0, 0) from rfl)) (by decide) (by decide) (by decide) (by decide) ?_
        exact lc_18 G GR SF GT GW X E S hL I jR jFEQ jREQ jSEQ jARJ jPTJ p1 p2 p3 p4 p5 p6 p7 p8 p9 (by omega) (by omega) (by omega) hk
      ·
        rw [gs]
        refine w_tabIn X.1 (dflt := 1826) (lo := 0) (hi := 43) (offs := #[192, 265, 293, 321, 334, 374, 435, 484, 524, 564, 616, 656, 708, 748, 776, 816, 844, 872, 900, 913, 926, 954, 982, 1010, 1050, 1063, 1091, 1131, 1159, 1199, 1239, 1279, 1331, 1371, 1399, 1455, 1519, 1599, 1627, 1707, 1747, 1775, 1788, 1801]) (len := 192) (off := 913) (t := 953) (ax_d X (show cdA 350 40 = some (.tableswitch 1826 0 43 #[192, 265, 293, 321, 334, 374, 435, 484, 524, 564, 616, 656, 708, 748, 776, 816, 844, 872, 900, 913, 926, 954, 982, 1010, 1050, 1063, 1091, 1131, 1159, 1199, 1239, 1279, 1331, 1371, 1399, 1455, 1519, 1599, 1627, 1707, 1747, 1775, 1788, 1801], 192, 0, 0, 0) from rfl)) (by decide) (by decide) (by decide) (by decide) ?_
        exact lc_19 G GR SF GT GW X E S hL I jR jFEQ jREQ jSEQ jARJ jPTJ p1 p2 p3 p4 p5 p6 p7 p8 p9 (by omega) (by omega) (by omega) hk
      ·
        rw [gs]
        refine w_tabIn X.1 (dflt := 1826) (lo := 0) (hi := 43) (offs := #[192, 265, 293, 321, 334, 374, 435, 484, 524, 564, 616, 656, 708, 748, 776, 816, 844, 872, 900, 913, 926, 954, 982, 1010, 1050, 1063, 1091, 1131, 1159, 1199, 1239, 1279, 1331, 1371, 1399, 1455, 1519, 1599, 1627, 1707, 1747, 1775, 1788, 1801]) (len := 192) (off := 926) (t := 966) (ax_d X (show cdA 350 40 = some (.tableswitch 1826 0 43 #[192, 265, 293, 321, 334, 374, 435, 484, 524, 564, 616, 656, 708, 748, 776, 816, 844, 872, 900, 913, 926, 954, 982, 1010, 1050, 1063, 1091, 1131, 1159, 1199, 1239, 1279, 1331, 1371, 1399, 1455, 1519, 1599, 1627, 1707, 1747, 1775, 1788, 1801], 192, 0, 0, 0) from rfl)) (by decide) (by decide) (by decide) (by decide) ?_
        exact lc_20 G GR SF GT GW X E S hL I jR jFEQ jREQ jSEQ jARJ jPTJ p1 p2 p3 p4 p5 p6 p7 p8 p9 (by omega) (by omega) (by omega) hk
      ·
        rw [gs]
        refine w_tabIn X.1 (dflt := 1826) (lo := 0) (hi := 43) (offs := #[192, 265, 293, 321, 334, 374, 435, 484, 524, 564, 616, 656, 708, 748, 776, 816, 844, 872, 900, 913, 926, 954, 982, 1010, 1050, 1063, 1091, 1131, 1159, 1199, 1239, 1279, 1331, 1371, 1399, 1455, 1519, 1599, 1627, 1707, 1747, 1775, 1788, 1801]) (len := 192) (off := 954) (t := 994) (ax_d X (show cdA 350 40 = some (.tableswitch 1826 0 43 #[192, 265, 293, 321, 334, 374, 435, 484, 524, 564, 616, 656, 708, 748, 776, 816, 844, 872, 900, 913, 926, 954, 982, 1010, 1050, 1063, 1091, 1131, 1159, 1199, 1239, 1279, 1331, 1371, 1399, 1455, 1519, 1599, 1627, 1707, 1747, 1775, 1788, 1801], 192, 0, 0, 0) from rfl)) (by decide) (by decide) (by decide) (by decide) ?_
        exact lc_21 G GR SF GT GW X E S hL I jR jFEQ jREQ jSEQ jARJ jPTJ p1 p2 p3 p4 p5 p6 p7 p8 p9 (by omega) (by omega) (by omega) hk
      ·
        rw [gs]
        refine w_tabIn X.1 (dflt := 1826) (lo := 0) (hi := 43) (offs := #[192, 265, 293, 321, 334, 374, 435, 484, 524, 564, 616, 656, 708, 748, 776, 816, 844, 872, 900, 913, 926, 954, 982, 1010, 1050, 1063, 1091, 1131, 1159, 1199, 1239, 1279, 1331, 1371, 1399, 1455, 1519, 1599, 1627, 1707, 1747, 1775, 1788, 1801]) (len := 192) (off := 982) (t := 1022) (ax_d X (show cdA 350 40 = some (.tableswitch 1826 0 43 #[192, 265, 293, 321, 334, 374, 435, 484, 524, 564, 616, 656, 708, 748, 776, 816, 844, 872, 900, 913, 926, 954, 982, 1010, 1050, 1063, 1091, 1131, 1159, 1199, 1239, 1279, 1331, 1371, 1399, 1455, 1519, 1599, 1627, 1707, 1747, 1775, 1788, 1801], 192, 0, 0, 0) from rfl)) (by decide) (by decide) (by decide) (by decide) ?_
        exact lc_22 G GR SF GT GW X E S hL I jR jFEQ jREQ jSEQ jARJ jPTJ p1 p2 p3 p4 p5 p6 p7 p8 p9 (by omega) (by omega) (by omega) hk
      ·
        rw [gs]
        refine w_tabIn X.1 (dflt := 1826) (lo := 0) (hi := 43) (offs := #[192, 265, 293, 321, 334, 374, 435, 484, 524, 564, 616, 656, 708, 748, 776, 816, 844, 872, 900, 913, 926, 954, 982, 1010, 1050, 1063, 1091, 1131, 1159, 1199, 1239, 1279, 1331, 1371, 1399, 1455, 1519, 1599, 1627, 1707, 1747, 1775, 1788, 1801]) (len := 192) (off := 1010) (t := 1050) (ax_d X (show cdA 350 40 = some (.tableswitch 1826 0 43 #[192, 265, 293, 321, 334, 374, 435, 484, 524, 564, 616, 656, 708, 748, 776, 816, 844, 872, 900, 913, 926, 954, 982, 1010, 1050, 1063, 1091, 1131, 1159, 1199, 1239, 1279, 1331, 1371, 1399, 1455, 1519, 1599, 1627, 1707, 1747, 1775, 1788, 1801], 192, 0, 0, 0) from rfl)) (by decide) (by decide) (by decide) (by decide) ?_
        exact lc_23 G GR SF GT GW X E S hL I jR jFEQ jREQ jSEQ jARJ jPTJ p1 p2 p3 p4 p5 p6 p7 p8 p9 (by omega) (by omega) (by omega) hk
      ·
        rw [gs]
        refine w_tabIn X.1 (dflt := 1826) (lo := 0) (hi := 43) (offs := #[192, 265, 293, 321, 334, 374, 435, 484, 524, 564, 616, 656, 708, 748, 776, 816, 844, 872, 900, 913, 926, 954, 982, 1010, 1050, 1063, 1091, 1131, 1159, 1199, 1239, 1279, 1331, 1371, 1399, 1455, 1519, 1599, 1627, 1707, 1747, 1775, 1788, 1801]) (len := 192) (off := 1050) (t := 1090) (ax_d X (show cdA 350 40 = some (.tableswitch 1826 0 43 #[192, 265, 293, 321, 334, 374, 435, 484, 524, 564, 616, 656, 708, 748, 776, 816, 844, 872, 900, 913, 926, 954, 982, 1010, 1050, 1063, 1091, 1131, 1159, 1199, 1239, 1279, 1331, 1371, 1399, 1455, 1519, 1599, 1627, 1707, 1747, 1775, 1788, 1801], 192, 0, 0, 0) from rfl)) (by decide) (by decide) (by decide) (by decide) ?_
        exact lc_24 G GR SF GT GW X E S hL I jR jFEQ jREQ jSEQ jARJ jPTJ p1 p2 p3 p4 p5 p6 p7 p8 p9 (by omega) (by omega) (by omega) hk
      ·
        rw [gs]
        refine w_tabIn X.1 (dflt := 1826) (lo := 0) (hi := 43) (offs := #[192, 265, 293, 321, 334, 374, 435, 484, 524, 564, 616, 656, 708, 748, 776, 816, 844, 872, 900, 913, 926, 954, 982, 1010, 1050, 1063, 1091, 1131, 1159, 1199, 1239, 1279, 1331, 1371, 1399, 1455, 1519, 1599, 1627, 1707, 1747, 1775, 1788, 1801]) (len := 192) (off := 1063) (t := 1103) (ax_d X (show cdA 350 40 = some (.tableswitch 1826 0 43 #[192, 265, 293, 321, 334, 374, 435, 484, 524, 564, 616, 656, 708, 748, 776, 816, 844, 872, 900, 913, 926, 954, 982, 1010, 1050, 1063, 1091, 1131, 1159, 1199, 1239, 1279, 1331, 1371, 1399, 1455, 1519, 1599, 1627, 1707, 1747, 1775, 1788, 1801], 192, 0, 0, 0) from rfl)) (by decide) (by decide) (by decide) (by decide) ?_
        exact lc_25 G GR SF GT GW X E S hL I jR jFEQ jREQ jSEQ jARJ jPTJ p1 p2 p3 p4 p5 p6 p7 p8 p9 (by omega) (by omega) (by omega) hk
      ·
        rw [gs]
        refine w_tabIn X.1 (dflt := 1826) (lo := 0) (hi := 43) (offs := #[192, 265, 293, 321, 334, 374, 435, 484, 524, 564, 616, 656, 708, 748, 776, 816, 844, 872, 900, 913, 926, 954, 982, 1010, 1050, 1063, 1091, 1131, 1159, 1199, 1239, 1279, 1331, 1371, 1399, 1455, 1519, 1599, 1627, 1707, 1747, 1775, 1788, 1801]) (len := 192) (off := 1091) (t := 1131) (ax_d X (show cdA 350 40 = some (.tableswitch 1826 0 43 #[192, 265, 293, 321, 334, 374, 435, 484, 524, 564, 616, 656, 708, 748, 776, 816, 844, 872, 900, 913, 926, 954, 982, 1010, 1050, 1063, 1091, 1131, 1159, 1199, 1239, 1279, 1331, 1371, 1399, 1455, 1519, 1599, 1627, 1707, 1747, 1775, 1788, 1801], 192, 0, 0, 0) from rfl)) (by decide) (by decide) (by decide) (by decide) ?_
        exact lc_26 G GR SF GT GW X E S hL I jR jFEQ jREQ jSEQ jARJ jPTJ p1 p2 p3 p4 p5 p6 p7 p8 p9 (by omega) (by omega) (by omega) hk
      ·
        rw [gs]
        refine w_tabIn X.1 (dflt := 1826) (lo := 0) (hi := 43) (offs := #[192, 265, 293, 321, 334, 374, 435, 484, 524, 564, 616, 656, 708, 748, 776, 816, 844, 872, 900, 913, 926, 954, 982, 1010, 1050, 1063, 1091, 1131, 1159, 1199, 1239, 1279, 1331, 1371, 1399, 1455, 1519, 1599, 1627, 1707, 1747, 1775, 1788, 1801]) (len := 192) (off := 1131) (t := 1171) (ax_d X (show cdA 350 40 = some (.tableswitch 1826 0 43 #[192, 265, 293, 321, 334, 374, 435, 484, 524, 564, 616, 656, 708, 748, 776, 816, 844, 872, 900, 913, 926, 954, 982, 1010, 1050, 1063, 1091, 1131, 1159, 1199, 1239, 1279, 1331, 1371, 1399, 1455, 1519, 1599, 1627, 1707, 1747, 1775, 1788, 1801], 192, 0, 0, 0) from rfl)) (by decide) (by decide) (by decide) (by decide) ?_
        exact lc_27 G GR SF GT GW X E S hL I jR jFEQ jREQ jSEQ jARJ jPTJ p1 p2 p3 p4 p5 p6 p7 p8 p9 (by omega) (by omega) (by omega) hk
      ·
        rw [gs]
        refine w_tabIn X.1 (dflt := 1826) (lo := 0) (hi := 43) (offs := #[192, 265, 293, 321, 334, 374, 435, 484, 524, 564, 616, 656, 708, 748, 776, 816, 844, 872, 900, 913, 926, 954, 982, 1010, 1050, 1063, 1091, 1131, 1159, 1199, 1239, 1279, 1331, 1371, 1399, 1455, 1519, 1599, 1627, 1707, 1747, 1775, 1788, 1801]) (len := 192) (off := 1159) (t := 1199) (ax_d X (show cdA 350 40 = some (.tableswitch 1826 0 43 #[192, 265, 293, 321, 334, 374, 435, 484, 524, 564, 616, 656, 708, 748, 776, 816, 844, 872, 900, 913, 926, 954, 982, 1010, 1050, 1063, 1091, 1131, 1159, 1199, 1239, 1279, 1331, 1371, 1399, 1455, 1519, 1599, 1627, 1707, 1747, 1775, 1788, 1801], 192, 0, 0, 0) from rfl)) (by decide) (by decide) (by decide) (by decide) ?_
        exact lc_28 G GR SF GT GW X E S hL I jR jFEQ jREQ jSEQ jARJ jPTJ p1 p2 p3 p4 p5 p6 p7 p8 p9 (by omega) (by omega) (by omega) hk
      ·
        rw [gs]
        refine w_tabIn X.1 (dflt := 1826) (lo := 0) (hi := 43) (offs := #[192, 265, 293, 321, 334, 374, 435, 484, 524, 564, 616, 656, 708, 748, 776, 816, 844, 872, 900, 913, 926, 954, 982, 1010, 1050, 1063, 1091, 1131, 1159, 1199, 1239, 1279, 1331, 1371, 1399, 1455, 1519, 1599, 1627, 1707, 1747, 1775, 1788, 1801]) (len := 192) (off := 1199) (t := 1239) (ax_d X (show cdA 350 40 = some (.tableswitch 1826 0 43 #[192, 265, 293, 321, 334, 374, 435, 484, 524, 564, 616, 656, 708, 748, 776, 816, 844, 872, 900, 913, 926, 954, 982, 1010, 1050, 1063, 1091, 1131, 1159, 1199, 1239, 1279, 1331, 1371, 1399, 1455, 1519, 1599, 1627, 1707, 1747, 1775, 1788, 1801], 192, 0, 0, 0) from rfl)) (by decide) (by decide) (by decide) (by decide) ?_
        exact lc_29 G GR SF GT GW X E S hL I jR jFEQ jREQ jSEQ jARJ jPTJ p1 p2 p3 p4 p5 p6 p7 p8 p9 (by omega) (by omega) (by omega) hk
      ·
        rw [gs]
        refine w_tabIn X.1 (dflt := 1826) (lo := 0) (hi := 43) (offs := #[192, 265, 293, 321, 334, 374, 435, 484, 524, 564, 616, 656, 708, 748, 776, 816, 844, 872, 900, 913, 926, 954, 982, 1010, 1050, 1063, 1091, 1131, 1159, 1199, 1239, 1279, 1331, 1371, 1399, 1455, 1519, 1599, 1627, 1707, 1747, 1775, 1788, 1801]) (len := 192) (off := 1239) (t := 1279) (ax_d X (show cdA 350 40 = some (.tableswitch 1826 0 43 #[192, 265, 293, 321, 334, 374, 435, 484, 524, 564, 616, 656, 708, 748, 776, 816, 844, 872, 900, 913, 926, 954, 982, 1010, 1050, 1063, 1091, 1131, 1159, 1199, 1239, 1279, 1331, 1371, 1399, 1455, 1519, 1599, 1627, 1707, 1747, 1775, 1788, 1801], 192, 0, 0, 0) from rfl)) (by decide) (by decide) (by decide) (by decide) ?_
        exact lc_30 G GR SF GT GW X E S hL I jR jFEQ jREQ jSEQ jARJ jPTJ p1 p2 p3 p4 p5 p6 p7 p8 p9 (by omega) (by omega) (by omega) hk
      ·
        rw [gs]
        refine w_tabIn X.1 (dflt := 1826) (lo := 0) (hi := 43) (offs := #[192, 265, 293, 321, 334, 374, 435, 484, 524, 564, 616, 656, 708, 748, 776, 816, 844, 872, 900, 913, 926, 954, 982, 1010, 1050, 1063, 1091, 1131, 1159, 1199, 1239, 1279, 1331, 1371, 1399, 1455, 1519, 1599, 1627, 1707, 1747, 1775, 1788, 1801]) (len := 192) (off := 1279) (t := 1319) (ax_d X (show cdA 350 40 = some (.tableswitch 1826 0 43 #[192, 265, 293, 321, 334, 374, 435, 484, 524, 564, 616, 656, 708, 748, 776, 816, 844, 872, 900, 913, 926, 954, 982, 1010, 1050, 1063, 1091, 1131, 1159, 1199, 1239, 1279, 1331, 1371, 1399, 1455, 1519, 1599, 1627, 1707, 1747, 1775, 1788, 1801], 192, 0, 0, 0) from rfl)) (by decide) (by decide) (by decide) (by decide) ?_
        exact lc_31 G GR SF GT GW X E S hL I jR jFEQ jREQ jSEQ jARJ jPTJ p1 p2 p3 p4 p5 p6 p7 p8 p9 (by omega) (by omega) (by omega) hk
      ·
        rw [gs]
        refine w_tabIn X.1 (dflt := 1826) (lo := 0) (hi := 43) (offs := #[192, 265, 293, 321, 334, 374, 435, 484, 524, 564, 616, 656, 708, 748, 776, 816, 844, 872, 900, 913, 926, 954, 982, 1010, 1050, 1063, 1091, 1131, 1159, 1199, 1239, 1279, 1331, 1371, 1399, 1455, 1519, 1599, 1627, 1707, 1747, 1775, 1788, 1801]) (len := 192) (off := 1331) (t := 1371) (ax_d X (show cdA 350 40 = some (.tableswitch 1826 0 43 #[192, 265, 293, 321, 334, 374, 435, 484, 524, 564, 616, 656, 708, 748, 776, 816, 844, 872, 900, 913, 926, 954, 982, 1010, 1050, 1063, 1091, 1131, 1159, 1199, 1239, 1279, 1331, 1371, 1399, 1455, 1519, 1599, 1627, 1707, 1747, 1775, 1788, 1801], 192, 0, 0, 0) from rfl)) (by decide) (by decide) (by decide) (by decide) ?_
        exact lc_32 G GR SF GT GW X E S hL I jR jFEQ jREQ jSEQ jARJ jPTJ p1 p2 p3 p4 p5 p6 p7 p8 p9 (by omega) (by omega) (by omega) hk
      ·
        rw [gs]
        refine w_tabIn X.1 (dflt := 1826) (lo := 0) (hi := 43) (offs := #[192, 265, 293, 321, 334, 374, 435, 484, 524, 564, 616, 656, 708, 748, 776, 816, 844, 872, 900, 913, 926, 954, 982, 1010, 1050, 1063, 1091, 1131, 1159, 1199, 1239, 1279, 1331, 1371, 1399, 1455, 1519, 1599, 1627, 1707, 1747, 1775, 1788, 1801]) (len := 192) (off := 1371) (t := 1411) (ax_d X (show cdA 350 40 = some (.tableswitch 1826 0 43 #[192, 265, 293, 321, 334, 374, 435, 484, 524, 564, 616, 656, 708, 748, 776, 816, 844, 872, 900, 913, 926, 954, 982, 1010, 1050, 1063, 1091, 1131, 1159, 1199, 1239, 1279, 1331, 1371, 1399, 1455, 1519, 1599, 1627, 1707, 1747, 1775, 1788, 1801], 192, 0, 0, 0) from rfl)) (by decide) (by decide) (by decide) (by decide) ?_
        exact lc_33 G GR SF GT GW X E S hL I jR jFEQ jREQ jSEQ jARJ jPTJ p1 p2 p3 p4 p5 p6 p7 p8 p9 (by omega) (by omega) (by omega) hk
      ·
        rw [gs]
        refine w_tabIn X.1 (dflt := 1826) (lo := 0) (hi := 43) (offs := #[192, 265, 293, 321, 334, 374, 435, 484, 524, 564, 616, 656, 708, 748, 776, 816, 844, 872, 900, 913, 926, 954, 982, 1010, 1050, 1063, 1091, 1131, 1159, 1199, 1239, 1279, 1331, 1371, 1399, 1455, 1519, 1599, 1627, 1707, 1747, 1775, 1788, 1801]) (len := 192) (off := 1399) (t := 1439) (ax_d X (show cdA 350 40 = some (.tableswitch 1826 0 43 #[192, 265, 293, 321, 334, 374, 435, 484, 524, 564, 616, 656, 708, 748, 776, 816, 844, 872, 900, 913, 926, 954, 982, 1010, 1050, 1063, 1091, 1131, 1159, 1199, 1239, 1279, 1331, 1371, 1399, 1455, 1519, 1599, 1627, 1707, 1747, 1775, 1788, 1801], 192, 0, 0, 0) from rfl)) (by decide) (by decide) (by decide) (by decide) ?_
        exact lc_34 G GR SF GT GW X E S hL I jR jFEQ jREQ jSEQ jARJ jPTJ p1 p2 p3 p4 p5 p6 p7 p8 p9 (by omega) (by omega) (by omega) hk
      ·
        rw [gs]
        refine w_tabIn X.1 (dflt := 1826) (lo := 0) (hi := 43) (offs := #[192, 265, 293, 321, 334, 374, 435, 484, 524, 564, 616, 656, 708, 748, 776, 816, 844, 872, 900, 913, 926, 954, 982, 1010, 1050, 1063, 1091, 1131, 1159, 1199, 1239, 1279, 1331, 1371, 1399, 1455, 1519, 1599, 1627, 1707, 1747, 1775, 1788, 1801]) (len := 192) (off := 1455) (t := 1495) (ax_d X (show cdA 350 40 = some (.tableswitch 1826 0 43 #[192, 265, 293, 321, 334, 374, 435, 484, 524, 564, 616, 656, 708, 748, 776, 816, 844, 872, 900, 913, 926, 954, 982, 1010, 1050, 1063, 1091, 1131, 1159, 1199, 1239, 1279, 1331, 1371, 1399, 1455, 1519, 1599, 1627, 1707, 1747, 1775, 1788, 1801], 192, 0, 0, 0) from rfl)) (by decide) (by decide) (by decide) (by decide) ?_
        exact lc_35 G GR SF GT GW X E S hL I jR jFEQ jREQ jSEQ jARJ jPTJ p1 p2 p3 p4 p5 p6 p7 p8 p9 (by omega) (by omega) (by omega) hk
      ·
        rw [gs]
        refine w_tabIn X.1 (dflt := 1826) (lo := 0) (hi := 43) (offs := #[192, 265, 293, 321, 334, 374, 435, 484, 524, 564, 616, 656, 708, 748, 776, 816, 844, 872, 900, 913, 926, 954, 982, 1010, 1050, 1063, 1091, 1131, 1159, 1199, 1239, 1279, 1331, 1371, 1399, 1455, 1519, 1599, 1627, 1707, 1747, 1775, 1788, 1801]) (len := 192) (off := 1519) (t := 1559) (ax_d X (show cdA 350 40 = some (.tableswitch 1826 0 43 #[192, 265, 293, 321, 334, 374, 435, 484, 524, 564, 616, 656, 708, 748, 776, 816, 844, 872, 900, 913, 926, 954, 982, 1010, 1050, 1063, 1091, 1131, 1159, 1199, 1239, 1279, 1331, 1371, 1399, 1455, 1519, 1599, 1627, 1707, 1747, 1775, 1788, 1801], 192, 0, 0, 0) from rfl)) (by decide) (by decide) (by decide) (by decide) ?_
        exact lc_36 G GR SF GT GW X E S hL I jR jFEQ jREQ jSEQ jARJ jPTJ p1 p2 p3 p4 p5 p6 p7 p8 p9 (by omega) (by omega) (by omega) hk
      ·
        rw [gs]
        refine w_tabIn X.1 (dflt := 1826) (lo := 0) (hi := 43) (offs := #[192, 265, 293, 321, 334, 374, 435, 484, 524, 564, 616, 656, 708, 748, 776, 816, 844, 872, 900, 913, 926, 954, 982, 1010, 1050, 1063, 1091, 1131, 1159, 1199, 1239, 1279, 1331, 1371, 1399, 1455, 1519, 1599, 1627, 1707, 1747, 1775, 1788, 1801]) (len := 192) (off := 1599) (t := 1639) (ax_d X (show cdA 350 40 = some (.tableswitch 1826 0 43 #[192, 265, 293, 321, 334, 374, 435, 484, 524, 564, 616, 656, 708, 748, 776, 816, 844, 872, 900, 913, 926, 954, 982, 1010, 1050, 1063, 1091, 1131, 1159, 1199, 1239, 1279, 1331, 1371, 1399, 1455, 1519, 1599, 1627, 1707, 1747, 1775, 1788, 1801], 192, 0, 0, 0) from rfl)) (by decide) (by decide) (by decide) (by decide) ?_
        exact lc_37 G GR SF GT GW X E S hL I jR jFEQ jREQ jSEQ jARJ jPTJ p1 p2 p3 p4 p5 p6 p7 p8 p9 (by omega) (by omega) (by omega) hk
      ·
        rw [gs]
        refine w_tabIn X.1 (dflt := 1826) (lo := 0) (hi := 43) (offs := #[192, 265, 293, 321, 334, 374, 435, 484, 524, 564, 616, 656, 708, 748, 776, 816, 844, 872, 900, 913, 926, 954, 982, 1010, 1050, 1063, 1091, 1131, 1159, 1199, 1239, 1279, 1331, 1371, 1399, 1455, 1519, 1599, 1627, 1707, 1747, 1775, 1788, 1801]) (len := 192) (off := 1627) (t := 1667) (ax_d X (show cdA 350 40 = some (.tableswitch 1826 0 43 #[192, 265, 293, 321, 334, 374, 435, 484, 524, 564, 616, 656, 708, 748, 776, 816, 844, 872, 900, 913, 926, 954, 982, 1010, 1050, 1063, 1091, 1131, 1159, 1199, 1239, 1279, 1331, 1371, 1399, 1455, 1519, 1599, 1627, 1707, 1747, 1775, 1788, 1801], 192, 0, 0, 0) from rfl)) (by decide) (by decide) (by decide) (by decide) ?_
        exact lc_38 G GR SF GT GW X E S hL I jR jFEQ jREQ jSEQ jARJ jPTJ p1 p2 p3 p4 p5 p6 p7 p8 p9 (by omega) (by omega) (by omega) hk
      ·
        rw [gs]
        refine w_tabIn X.1 (dflt := 1826) (lo := 0) (hi := 43) (offs := #[192, 265, 293, 321, 334, 374, 435, 484, 524, 564, 616, 656, 708, 748, 776, 816, 844, 872, 900, 913, 926, 954, 982, 1010, 1050, 1063, 1091, 1131, 1159, 1199, 1239, 1279, 1331, 1371, 1399, 1455, 1519, 1599, 1627, 1707, 1747, 1775, 1788, 1801]) (len := 192) (off := 1707) (t := 1747) (ax_d X (show cdA 350 40 = some (.tableswitch 1826 0 43 #[192, 265, 293, 321, 334, 374, 435, 484, 524, 564, 616, 656, 708, 748, 776, 816, 844, 872, 900, 913, 926, 954, 982, 1010, 1050, 1063, 1091, 1131, 1159, 1199, 1239, 1279, 1331, 1371, 1399, 1455, 1519, 1599, 1627, 1707, 1747, 1775, 1788, 1801], 192, 0, 0, 0) from rfl)) (by decide) (by decide) (by decide) (by decide) ?_
        exact lc_39 G GR SF GT GW X E S hL I jR jFEQ jREQ jSEQ jARJ jPTJ p1 p2 p3 p4 p5 p6 p7 p8 p9 (by omega) (by omega) (by omega) hk
      ·
        rw [gs]
        refine w_tabIn X.1 (dflt := 1826) (lo := 0) (hi := 43) (offs := #[192, 265, 293, 321, 334, 374, 435, 484, 524, 564, 616, 656, 708, 748, 776, 816, 844, 872, 900, 913, 926, 954, 982, 1010, 1050, 1063, 1091, 1131, 1159, 1199, 1239, 1279, 1331, 1371, 1399, 1455, 1519, 1599, 1627, 1707, 1747, 1775, 1788, 1801]) (len := 192) (off := 1747) (t := 1787) (ax_d X (show cdA 350 40 = some (.tableswitch 1826 0 43 #[192, 265, 293, 321, 334, 374, 435, 484, 524, 564, 616, 656, 708, 748, 776, 816, 844, 872, 900, 913, 926, 954, 982, 1010, 1050, 1063, 1091, 1131, 1159, 1199, 1239, 1279, 1331, 1371, 1399, 1455, 1519, 1599, 1627, 1707, 1747, 1775, 1788, 1801], 192, 0, 0, 0) from rfl)) (by decide) (by decide) (by decide) (by decide) ?_
        exact lc_40 G GR SF GT GW X E S hL I jR jFEQ jREQ jSEQ jARJ jPTJ p1 p2 p3 p4 p5 p6 p7 p8 p9 (by omega) (by omega) (by omega) hk
      ·
        rw [gs]
        refine w_tabIn X.1 (dflt := 1826) (lo := 0) (hi := 43) (offs := #[192, 265, 293, 321, 334, 374, 435, 484, 524, 564, 616, 656, 708, 748, 776, 816, 844, 872, 900, 913, 926, 954, 982, 1010, 1050, 1063, 1091, 1131, 1159, 1199, 1239, 1279, 1331, 1371, 1399, 1455, 1519, 1599, 1627, 1707, 1747, 1775, 1788, 1801]) (len := 192) (off := 1775) (t := 1815) (ax_d X (show cdA 350 40 = some (.tableswitch 1826 0 43 #[192, 265, 293, 321, 334, 374, 435, 484, 524, 564, 616, 656, 708, 748, 776, 816, 844, 872, 900, 913, 926, 954, 982, 1010, 1050, 1063, 1091, 1131, 1159, 1199, 1239, 1279, 1331, 1371, 1399, 1455, 1519, 1599, 1627, 1707, 1747, 1775, 1788, 1801], 192, 0, 0, 0) from rfl)) (by decide) (by decide) (by decide) (by decide) ?_
        exact lc_41 G GR SF GT GW X E S hL I jR jFEQ jREQ jSEQ jARJ jPTJ p1 p2 p3 p4 p5 p6 p7 p8 p9 (by omega) (by omega) (by omega) hk
      ·
        rw [gs]
        refine w_tabIn X.1 (dflt := 1826) (lo := 0) (hi := 43) (offs := #[192, 265, 293, 321, 334, 374, 435, 484, 524, 564, 616, 656, 708, 748, 776, 816, 844, 872, 900, 913, 926, 954, 982, 1010, 1050, 1063, 1091, 1131, 1159, 1199, 1239, 1279, 1331, 1371, 1399, 1455, 1519, 1599, 1627, 1707, 1747, 1775, 1788, 1801]) (len := 192) (off := 1788) (t := 1828) (ax_d X (show cdA 350 40 = some (.tableswitch 1826 0 43 #[192, 265, 293, 321, 334, 374, 435, 484, 524, 564, 616, 656, 708, 748, 776, 816, 844, 872, 900, 913, 926, 954, 982, 1010, 1050, 1063, 1091, 1131, 1159, 1199, 1239, 1279, 1331, 1371, 1399, 1455, 1519, 1599, 1627, 1707, 1747, 1775, 1788, 1801], 192, 0, 0, 0) from rfl)) (by decide) (by decide) (by decide) (by decide) ?_
        exact lc_42 G GR SF GT GW X E S hL I jR jFEQ jREQ jSEQ jARJ jPTJ p1 p2 p3 p4 p5 p6 p7 p8 p9 (by omega) (by omega) (by omega) hk
      ·
        rw [gs]
        refine w_tabIn X.1 (dflt := 1826) (lo := 0) (hi := 43) (offs := #[192, 265, 293, 321, 334, 374, 435, 484, 524, 564, 616, 656, 708, 748, 776, 816, 844, 872, 900, 913, 926, 954, 982, 1010, 1050, 1063, 1091, 1131, 1159, 1199, 1239, 1279, 1331, 1371, 1399, 1455, 1519, 1599, 1627, 1707, 1747, 1775, 1788, 1801]) (len := 192) (off := 1801) (t := 1841) (ax_d X (show cdA 350 40 = some (.tableswitch 1826 0 43 #[192, 265, 293, 321, 334, 374, 435, 484, 524, 564, 616, 656, 708, 748, 776, 816, 844, 872, 900, 913, 926, 954, 982, 1010, 1050, 1063, 1091, 1131, 1159, 1199, 1239, 1279, 1331, 1371, 1399, 1455, 1519, 1599, 1627, 1707, 1747, 1775, 1788, 1801], 192, 0, 0, 0) from rfl)) (by decide) (by decide) (by decide) (by decide) ?_
        exact lc_43 G GR SF GT GW X E S hL I jR jFEQ jREQ jSEQ jARJ jPTJ p1 p2 p3 p4 p5 p6 p7 p8 p9 (by omega) (by omega) (by omega) hk
      ·
        exact w_tabOut X.1 (dflt := 1826) (lo := 0) (hi := 43) (offs := #[192, 265, 293, 321, 334, 374, 435, 484, 524, 564, 616, 656, 708, 748, 776, 816, 844, 872, 900, 913, 926, 954, 982, 1010, 1050, 1063, 1091, 1131, 1159, 1199, 1239, 1279, 1331, 1371, 1399, 1455, 1519, 1599, 1627, 1707, 1747, 1775, 1788, 1801]) (len := 192) (t := 1866) (ax_d X (show cdA 350 40 = some (.tableswitch 1826 0 43 #[192, 265, 293, 321, 334, 374, 435, 484, 524, 564, 616, 656, 708, 748, 776, 816, 844, 872, 900, 913, 926, 954, 982, 1010, 1050, 1063, 1091, 1131, 1159, 1199, 1239, 1279, 1331, 1371, 1399, 1455, 1519, 1599, 1627, 1707, 1747, 1775, 1788, 1801], 192, 0, 0, 0) from rfl)) (by rw [zi ⟨by omega, by omega⟩]; omega) (by decide) (w_widen (ce' := 518 + 29 * m + 29) (sl' := 23524 + 222 * m + 222) (by omega) (by omega) (hk A s I jR jFEQ jREQ jSEQ jARJ jPTJ p1 p2 p3 p4 p5 p6 p7 p8 p9))
end M88
