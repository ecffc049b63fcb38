theorem oq_b4ae9026 {a0 a1 : Int} {n2 : Nat} (h0 : a0 < 6) (h1 : (a1 + 6) ≤ ((n2 : Nat) : Int)) : (a1 + a0) < ((n2 : Nat) : Int) := by omega
theorem oq_f45e18a5 {n0 n1 n2 n3 : Nat} (h0 : n0 ≤ n1) (h1 : (n2 + n1) ≤ n3) : (n2 + n0) ≤ n3 := by omega
theorem oq_2c59610d {n0 n1 n2 n3 n4 : Nat} (h0 : (n0 + n1) ≤ n2) (h1 : (n3 + n2) ≤ n4) : ((n3 + n0) + n1) ≤ n4 := by omega
theorem oq_14d7aae0 {a0 : Int} {n1 : Nat} (h0 : a0 < ((n1 : Nat) : Int)) (h1 : n1 ≤ 3072) : (a0 : Int).toNat < 2147483648 := by omega
theorem oq_4baa7c92 {n0 : Nat} (h0 : n0 ≤ 3072) : n0 < 2147483648 := by omega
theorem oq_349a7c72 {n0 : Nat} (h0 : (n0 + 29) ≤ 601024) : (n0 + 0) ≤ 601024 := by omega
theorem oq_9a8748d4 {n0 : Nat} (h0 : (n0 + 222) ≤ 7293034) : (n0 + 0) ≤ 7293034 := by omega
theorem oq_a9591169 {a0 a1 a2 : Int} (h0 : a0 = a1) (h1 : a2 = a1) : a0 = a2 := by omega
theorem oq_97a8a2b5 {a0 a1 a2 a3 a4 : Int} (h0 : a0 = (a1 + 20)) (h1 : a2 = (a3 + 20)) (h2 : a1 = a4) (h3 : a3 = a4) : a0 = a2 := by omega
theorem oq_e057f278 {a0 a1 a2 a3 a4 a5 : Int} (h0 : a0 = (a1 + 20)) (h1 : a2 = (a3 + 20)) (h2 : a4 = a2) (h3 : a1 = a5) (h4 : a3 = a5) : a4 = a0 := by omega
theorem oq_acd11fb1 {a0 a1 a2 a3 a4 a5 : Int} (h0 : a0 = a1) (h1 : a2 = a3) (h2 : a4 = a2) (h3 : a1 = a5) (h4 : a3 = a5) : a4 = a0 := by omega
theorem oq_398737bb {n0 : Nat} (h0 : (n0 + 29) ≤ 601024) : ((n0 + 1) + 0) ≤ 601024 := by omega
theorem oq_140060cc {n0 : Nat} (h0 : (n0 + 222) ≤ 7293034) : ((n0 + 6) + 0) ≤ 7293034 := by omega
theorem oq_36ebf2bf {a0 a1 a2 : Int} (h0 : (a0 = a1 ∨ a0 = (a1 + 1))) (h1 : a2 = a0) : a1 ≤ a2 := by omega
theorem oq_8ab0b9ca {a0 a1 : Int} (h0 : a0 = a1) (h1 : a1 ≤ 12) : a0 ≤ 12 := by omega
theorem oq_af5b6c12 {a0 a1 a2 : Int} (h0 : (a0 = a1 ∨ a0 = (a1 + 1))) (h1 : a2 = a0) : (a2 = a1 ∨ a2 = (a1 + 1)) := by omega
theorem oq_2b80f052 {a0 a1 a2 : Int} (h0 : a0 = 0) (h1 : a1 = 0) (h2 : a2 = a1) : a2 = a0 := by omega
theorem oq_36826491 {a0 a1 a2 : Int} (h0 : a0 = a1) (h1 : a2 = a0) : a1 ≤ a2 := by omega
theorem oq_b9e6cbf4 {n0 : Nat} (h0 : (n0 + 29) ≤ 601024) : ((n0 + 5) + 0) ≤ 601024 := by omega
theorem oq_ab126e84 {n0 : Nat} (h0 : (n0 + 222) ≤ 7293034) : ((n0 + 30) + 0) ≤ 7293034 := by omega
theorem oq_9bba7529 {a0 a1 a2 : Int} (h0 : a0 = a1) (h1 : a1 = a2) : a2 ≤ a0 := by omega
theorem oq_0a958bad {n0 : Nat} (h0 : (n0 + 29) ≤ 601024) : ((n0 + 3) + 0) ≤ 601024 := by omega
theorem oq_21dd3b4d {n0 : Nat} (h0 : (n0 + 222) ≤ 7293034) : ((n0 + 18) + 0) ≤ 7293034 := by omega
theorem oq_9132574d {n0 : Nat} (h0 : (n0 + 29) ≤ 601024) : ((n0 + 2) + 0) ≤ 601024 := by omega
theorem oq_2b178334 {n0 : Nat} (h0 : (n0 + 222) ≤ 7293034) : ((n0 + 12) + 0) ≤ 7293034 := by omega
theorem oq_3f0f2395 {a0 a1 a2 a3 a4 a5 : Int} (h0 : a0 = (a1 + 1)) (h1 : a2 = (a3 + 1)) (h2 : a4 = a2) (h3 : a1 = a5) (h4 : a3 = a5) : a4 = a0 := by omega
theorem oq_fcfa6955 {a0 a1 : Int} (h0 : a0 = 4) (h1 : a1 = a0) : 0 ≤ a1 := by omega
theorem oq_41f8e794 {a0 a1 a2 : Int} (h0 : a0 = 4) (h1 : a1 = 4) (h2 : a2 = a0) : a2 ≤ a1 := by omega
theorem oq_14f9fce7 {a0 a1 a2 : Int} (h0 : a0 = (a1 - 1)) (h1 : a2 = a0) : a2 ≤ a1 := by omega
theorem oq_4cf15eca {a0 a1 a2 a3 a4 a5 : Int} (h0 : a0 = (a1 - 1)) (h1 : a2 = (a3 - 1)) (h2 : a4 = a2) (h3 : a1 = a5) (h4 : a3 = a5) : a4 = a0 := by omega
theorem oq_40993893 {a0 a1 : Int} (h0 : a0 = 0) (h1 : a1 = a0) : 0 ≤ a1 := by omega
theorem oq_633e93bb {a0 a1 a2 : Int} (h0 : a0 = 0) (h1 : a1 = 0) (h2 : a2 = a0) : a2 ≤ a1 := by omega

theorem oq_5bf2829b : 8 + 1 ≤ 2048 := by omega
theorem oq_e23742ae : 8 + (6 + 11) + 147 ≤ 84000 := by omega
theorem oq_4d34cb53 : 6 + 1 ≤ 2048 := by omega
theorem oq_e10754c2 : 8 + (8 + 11) + 100 ≤ 84000 := by omega
theorem oq_5bcdc35f {a0 a1 a2 a3 a4 a5 : Int} (h0 : a0 = a1) (h1 : a2 = a3) (h2 : a1 = a4) (h3 : a3 = a5) (h4 : a5 = a4) : a2 = a0 := by omega
theorem oq_5655e407 : 10 + 1 ≤ 2048 := by omega
theorem oq_0b5c09a5 : 8 + (3 + 11) + 191 ≤ 84000 := by omega
theorem oq_0ed3bd18 : 61 + 1 ≤ 2048 := by omega
theorem oq_735d5381 : 8 + (3 + 11) + 2660 ≤ 84000 := by omega
theorem oq_a32dccc4 : 8 + (1 + 11) + 100 ≤ 84000 := by omega
theorem oq_4e6106eb : 7 + 1 ≤ 2048 := by omega
theorem oq_38d194b9 : 8 + (3 + 11) + 122 ≤ 84000 := by omega
theorem oq_380e4f97 : 8 + (6 + 11) + 122 ≤ 84000 := by omega
theorem oq_ebbf79c1 : 8 + (4 + 11) + 122 ≤ 84000 := by omega
theorem oq_263907be : 8 + (3 + 11) + 146 ≤ 84000 := by omega
theorem oq_2596b3cb : 37 + 1 ≤ 2048 := by omega
theorem oq_93887b04 : 8 + (5 + 11) + 1578 ≤ 84000 := by omega
theorem oq_dead3895 : 39 + 1 ≤ 2048 := by omega
theorem oq_16841511 : 8 + (5 + 11) + 1622 ≤ 84000 := by omega
theorem oq_1d601463 : 9 + 1 ≤ 2048 := by omega
theorem oq_485672f1 : 8 + (2 + 11) + 171 ≤ 84000 := by omega
theorem oq_da2b07c8 : 8 + (6 + 11) + 171 ≤ 84000 := by omega
theorem oq_f75bb075 : 8 + (7 + 11) + 122 ≤ 84000 := by omega
theorem oq_dd1cdbfa : 11 + 1 ≤ 2048 := by omega
theorem oq_c1432001 : 8 + (6 + 11) + 212 ≤ 84000 := by omega
theorem oq_b95bb2bf : 8 + (2 + 11) + 224 ≤ 84000 := by omega
theorem oq_2450e786 : 8 + (2 + 11) + 1622 ≤ 84000 := by omega
theorem oq_f781d9f4 : 12 + 1 ≤ 2048 := by omega
theorem oq_d9c24595 : 8 + (1 + 11) + 237 ≤ 84000 := by omega
theorem oq_2c2f0271 : 41 + 1 ≤ 2048 := by omega
theorem oq_260410fd : 8 + (1 + 11) + 1663 ≤ 84000 := by omega
theorem oq_38aede7b : 42 + 1 ≤ 2048 := by omega
theorem oq_b5fdcedd : 8 + (2 + 11) + 1687 ≤ 84000 := by omega
theorem oq_e190c71b : 8 + (3 + 11) + 1687 ≤ 84000 := by omega
theorem oq_a3fac05c : 38 + 1 ≤ 2048 := by omega
theorem oq_e81fc71d : 8 + (3 + 11) + 1601 ≤ 84000 := by omega
theorem oq_8731b8c0 : 8 + (2 + 11) + 100 ≤ 84000 := by omega
theorem oq_f09e007f : 8 + (2 + 11) + 122 ≤ 84000 := by omega
theorem oq_03e28196 : 62 + 1 ≤ 2048 := by omega
theorem oq_1f8b0a4c : 8 + (3 + 11) + 2686 ≤ 84000 := by omega
theorem oq_e8f78630 {a0 a1 a2 : Int} (h0 : 1 ≤ a0) (h1 : (a1 = 1 → a0 = 1)) (h2 : a1 = a2) (h3 : 1 ≤ a2) (h4 : a2 = 1) : a0 = 1 := by omega
theorem oq_5cbe2cb6 : 64 + 1 ≤ 2048 := by omega
theorem oq_276d7037 : 8 + (6 + 11) + 2742 ≤ 84000 := by omega
theorem oq_31d93303 : 8 + (4 + 11) + 2742 ≤ 84000 := by omega
theorem oq_151ba25b : 8 + (3 + 11) + 2742 ≤ 84000 := by omega
theorem oq_c67cc45d : 73 + 1 ≤ 2048 := by omega
theorem oq_f40e0be7 : 8 + (7 + 11) + 3227 ≤ 84000 := by omega
theorem oq_f8649f31 : 8 + (6 + 11) + 189 ≤ 84000 := by omega
theorem oq_8fd475f0 : 8 + (7 + 11) + 145 ≤ 84000 := by omega
theorem oq_d572abc1 : 8 + (10 + 11) + 1578 ≤ 84000 := by omega
theorem oq_b102b2ee : 8 + (6 + 11) + 1663 ≤ 84000 := by omega
theorem oq_24286ecc : 8 + (4 + 11) + 123 ≤ 84000 := by omega
theorem oq_23aa4b49 : 8 + (1 + 11) + 120 ≤ 84000 := by omega
theorem oq_6fd3db4b : 8 + (1 + 11) + 147 ≤ 84000 := by omega
theorem oq_ca72eefc : 8 + (2 + 11) + 143 ≤ 84000 := by omega
/-! The law's loop: a call of class and model each round -/
/-- the script's int at i -/
def sc (xs : Nat → Int32) (i : Int) : Int := (xs i.toNat).toInt
theorem sc_rng {xs : Nat → Int32} {i : Int} : rng (sc xs i) := rng_to _
/-- the script, as the law's activation sees it -/
def SX (k : kx_T) (b L : Nat) (xs : Nat → Int32) : Prop := va_X b L xs (kS k) (kS k).heap ∧ b < (kS k).heap.size ∧ ¬ kF k b
section ZS
variable {k : kx_T} {mn pc : Nat} {dT : Nat → ClassId} {lv : List (Nat × Value)} {st : List Value} {ws : va_W} {ce sl a b0 b L : Nat} {z : Int} {xs : Nat → Int32}
theorem sx_in {i c : Int} {L : Nat} (h : 0 ≤ i ∧ i + 6 ≤ (L : Int)) (k : 0 ≤ c ∧ c < 6) : 0 ≤ i + c ∧ i + c < (L : Int) := by first | exact And.intro (oq_d8d6a599 k.1 h.1) (oq_b4ae9026 k.2 h.2) | omega
theorem rmo_1 {x a b n : Nat} (h : x + b ≤ n) (k : a ≤ b) : x + a ≤ n := by first | exact oq_f45e18a5 k h | omega
theorem rmo_2 {x a c b n : Nat} (h : x + b ≤ n) (k : c + a ≤ b) : x + c + a ≤ n := by first | exact oq_2c59610d k h | omega
theorem z_sld (X : AX k mn dT) (S : SX k b L xs) (hL : L ≤ 3072) {i : Int} (h : cdA mn pc = some (.iaload, 1, a, b0, z)) (hi : 0 ≤ i ∧ i < (L : Int)) (g : WS k (pc + 1) lv (.int (Int32.ofInt (sc xs i)) :: st) ws ce sl) : WS k pc lv (.int (Int32.ofInt i) :: .ref b :: st) ws ce sl := by
  have e : xs (Int32.ofInt i).toNatClampNeg = Int32.ofInt (sc xs i) := by
    rw [on_of hi.1, on_cl (by first | exact oq_14d7aae0 hi.2 hL | omega)]
    exact (ofi_to _).symm
  rw [on_of hi.1] at e ⊢
  refine w_sld X.1 S.1 S.2.1 S.2.2 (on_in (by first | exact oq_58be8290 hi.2 hi.1 | omega) (by first | exact oq_4baa7c92 hL | omega)) (ax_d X h) ?_
  rw [e]
  exact g
theorem z_slen (X : AX k mn dT) (S : SX k b L xs) (hL : L ≤ 3072) (h : cdA mn pc = some (.arraylength, 1, a, b0, z)) (g : WS k (pc + 1) lv (.int (Int32.ofInt (L : Int)) :: st) ws ce sl) : WS k pc lv (.ref b :: st) ws ce sl := by
  refine w_slen X.1 S.1 S.2.1 S.2.2 (ax_d X h) ?_
  have e : Int32.ofNat L = Int32.ofInt (L : Int) := by
    have h9 := on_of (z := (L : Int)) (by first | exact oq_a3593015 | omega)
    have h8 : ((L : Int)).toNat = L := by first | exact oq_3d866207 | omega
    rw [h8] at h9
    exact h9.symm
  rw [e]
  exact g
theorem z_lO {A : Nat → Nat} {s : PS} (X : AX k mn dT) (h : cdA mn pc = some (.laload, 1, 0, 0, 0)) (g : WS k (pc + 1) lv (.long (gD s 460 0) :: st) (Wd A dT s) ce sl) : WS k pc lv (.int (Int32.ofInt 0) :: .ref (A 517) :: st) (Wd A dT s) ce sl :=
  s_lald X 517 (n := 1) (a := 460) (i := 0) h (by decide) rfl (by decide) (by decide) g
theorem lcmp_0 {x y : Int64} : lg_cmp x y = 0 ↔ x = y := lg_cmp_eq x y
theorem z_lc {s : PS} {b : Int} (hb : rng b) (g : ∀ c : Int, rng c → ((c = 0 ∧ iO s = b) ∨ (c ≠ 0 ∧ iO s ≠ b)) → WS k pc lv (.int (Int32.ofInt c) :: st) ws ce sl) : WS k pc lv (.int (lg_cmp (gD s 460 0) (Int32.ofInt b).toInt64) :: st) ws ce sl := by
  have h9 := g (lg_cmp (gD s 460 0) (Int32.ofInt b).toInt64).toInt (rng_to _)
  rw [ofi_to] at h9
  refine h9 ?_
  have e1 : (Int32.ofInt b).toInt64.toInt = b := by rw [Int32.toInt_toInt64, zi hb]
  by_cases q : gD s 460 0 = (Int32.ofInt b).toInt64
  · refine Or.inl ⟨by rw [lcmp_0.mpr q]; rfl, ?_⟩
    show (gD s 460 0).toInt = b
    rw [q, e1]
  · refine Or.inr ⟨fun z => q (lcmp_0.mp (Int32.toInt_inj.mp (show _ = (0 : Int32).toInt from z))), fun z => q (Int64.toInt_inj.mp ?_)⟩
    rw [e1]
    exact z
end ZS
theorem APJ_fm {L M : List Nat} {s t : PS} (F : Fm L M s t) (h : 21 ∉ M ∧ 228 ∉ M) (r : AEQ 21 228 128 s) : AEQ 21 228 128 t := aeq_sam r (sam_fm F h.1) (sam_fm F h.2)
theorem ALJ_fm {L M : List Nat} {s t : PS} (F : Fm L M s t) (h : 24 ∉ M ∧ 229 ∉ M) (r : AEQ 24 229 8 s) : AEQ 24 229 8 t := aeq_sam r (sam_fm F h.1) (sam_fm F h.2)
def ARJ (s : PS) : Prop := WQJ s ∧ LIJ s ∧ MQJ s ∧ NZJ s ∧ TWJ s ∧ AIR s ∧ CPL s ∧ RLJ s
theorem ARJ_fm {L M : List Nat} {s t : PS} (F : Fm L M s t) (h : ((9 ∉ L ∧ 2 ∉ M ∧ 1 ∉ M ∧ 162 ∉ M) ∧ ∀ j, j < 12 → 166 + j ∉ M) ∧ (90 ∉ L ∧ 162 ∉ M ∧ ∀ i, i < 12 → 166 + i ∉ M ∧ 178 + i ∉ M) ∧ ((8 ∉ M ∧ 10 ∉ M ∧ 9 ∉ M ∧ 11 ∉ M ∧ 12 ∉ M) ∧ (∀ j, j < 12 → 190 + j ∉ M) ∧ 163 ∉ M ∧ 164 ∉ M) ∧ (9 ∉ L ∧ 8 ∉ M) ∧ (9 ∉ L ∧ 14 ∉ M ∧ 11 ∉ M) ∧ (9 ∉ L ∧ 1 ∉ M ∧ 2 ∉ M ∧ 3 + 1000 ∉ M ∧ 4 + 1000 ∉ M ∧ 5 + 1000 ∉ M) ∧ ((9 ∉ L ∧ 10 ∉ L) ∧ 6 ∉ M ∧ 7 + 1000 ∉ M ∧ 3 + 1000 ∉ M ∧ 4 + 1000 ∉ M) ∧ ((85 ∉ L ∧ 82 ∉ L ∧ 158 ∉ M) ∧ (13 ∉ L ∧ 15 ∉ L) ∧ 17 ∉ M ∧ 16 ∉ M)) (r : ARJ s) : ARJ t := ⟨WQJ_fm F h.1 r.1, LIJ_fm F h.2.1 r.2.1, MQJ_fm F h.2.2.1 r.2.2.1, NZJ_fm F h.2.2.2.1 r.2.2.2.1, TWJ_fm F h.2.2.2.2.1 r.2.2.2.2.1, AIR_fm F h.2.2.2.2.2.1 r.2.2.2.2.2.1, CPL_fm F h.2.2.2.2.2.2.1 r.2.2.2.2.2.2.1, RLJ_fm F h.2.2.2.2.2.2.2 r.2.2.2.2.2.2.2⟩
def PTJ (s : PS) : Prop := PMJ s ∧ AEQ 21 228 128 s ∧ AEQ 24 229 8 s ∧ MKJ s
theorem PTJ_fm {L M : List Nat} {s t : PS} (F : Fm L M s t) (h : (21 ∉ M ∧ 22 + 1000 ∉ M ∧ 23 + 1000 ∉ M) ∧ (21 ∉ M ∧ 228 ∉ M) ∧ (24 ∉ M ∧ 229 ∉ M) ∧ (20 ∉ L ∧ 25 ∉ M ∧ ∀ i, i < 4 → 241 + i ∉ M)) (r : PTJ s) : PTJ t := ⟨PMJ_fm F h.1 r.1, APJ_fm F h.2.1 r.2.1, ALJ_fm F h.2.2.1 r.2.2.1, MKJ_fm F h.2.2.2 r.2.2.2⟩
section M88
variable {l : Launch} {s0 : State} {D : va_G} {tys : List (ClassId × FieldType)} {a0 : Array Value} {A : Nat → Nat} {dT : Nat → ClassId} {s : PS}
theorem lc_0 (G : GX l s0 D tys a0 dT) (GR : RS0 s0) (SF : SF0 s0) (GT : TXs0 s0) (GW : TXw0 s0) {k : kx_T} (X : AX k 350 dT) (E : kL k = l ∧ kS0 k = s0 ∧ kD k = D ∧ kR k = room_1) {q1 L : Nat} {xs : Nat → Int32} (S : SX k q1 L xs) (hL : L ≤ 3072) (I : Bd s) (jR : RLx s) (jFEQ : FEQ s) (jARJ : ARJ s) (jPTJ : PTJ s) (p1 : iI s 89 = 1) (p2 : iI s 12 ≤ 8) (p3 : iI s 0 = iI s 74) (p4 : iI s 9 = iI s 90) (p5 : iI s 20 = iI s 98) {i : Int} (hi : 0 ≤ i ∧ i + 6 ≤ (L : Int)) {ce sl : Nat} (hce : ce + 29 ≤ 601024) (hsl : sl + 222 ≤ 7293034) (hk : ∀ (A : Nat → Nat) (t : PS), Bd t → RLx t → FEQ t → ARJ t → PTJ t → iI t 89 = 1 → iI t 12 ≤ 8 → iI t 0 = iI t 74 → iI t 9 = iI t 90 → iI t 20 = iI t 98 → WS k 1894 [(0, .ref q1), (1, .ref (A 0)), (2, .ref (A 179)), (3, .ref (A 517)), (4, .int (Int32.ofInt i))] [] (Wd A dT t) (ce + 29) (sl + 222)) : WS k 232 [(0, .ref q1), (1, .ref (A 0)), (2, .ref (A 179)), (3, .ref (A 517)), (4, .int (Int32.ofInt i))] [] (Wd A dT s) ce sl := by
  have F : Fm [0, 73, 74] [0, 157] s s := fm_rf _ _ s
  have b1 := bi_0 I
  have b2 := bi_74 I
  have b3 := bi_9 I
  have b4 := bi_90 I
  have b5 := bi_20 I
  have b6 := bi_98 I
  have b7 := bi_12 I
  have b8 := bi_89 I
  refine z_aload_n X (x := A 0) rfl (List.Mem.tail _ (List.Mem.head _)) (z_aload_n X (x := q1) rfl (List.Mem.head _) (z_load X (x := i) rfl (List.Mem.tail _ (List.Mem.tail _ (List.Mem.tail _ (List.Mem.tail _ (List.Mem.head _))))) (z_const X rfl (z_add X rfl (z_sld X S hL rfl (show 0 ≤ (i + 1) ∧ (i + 1) < (L : Int) by first | exact sx_in hi (by decide) | omega) ?_)))))
  have sr9 : rng (sc xs (i + 1)) := sc_rng
  refine z_aload_n X (x := q1) rfl (List.Mem.head _) (z_load X (x := i) rfl (List.Mem.tail _ (List.Mem.tail _ (List.Mem.tail _ (List.Mem.tail _ (List.Mem.head _))))) (z_const X rfl (z_add X rfl (z_sld X S hL rfl (show 0 ≤ (i + 2) ∧ (i + 2) < (L : Int) by first | exact sx_in hi (by decide) | omega) ?_))))
  have sr10 : rng (sc xs (i + 2)) := sc_rng
  refine z_aload_n X (x := q1) rfl (List.Mem.head _) (z_load X (x := i) rfl (List.Mem.tail _ (List.Mem.tail _ (List.Mem.tail _ (List.Mem.tail _ (List.Mem.head _))))) (z_const X rfl (z_add X rfl (z_sld X S hL rfl (show 0 ≤ (i + 3) ∧ (i + 3) < (L : Int) by first | exact sx_in hi (by decide) | omega) ?_))))
  have sr11 : rng (sc xs (i + 3)) := sc_rng
  refine z_aload_n X (x := q1) rfl (List.Mem.head _) (z_load X (x := i) rfl (List.Mem.tail _ (List.Mem.tail _ (List.Mem.tail _ (List.Mem.tail _ (List.Mem.head _))))) (z_const X rfl (z_add X rfl (z_sld X S hL rfl (show 0 ≤ (i + 4) ∧ (i + 4) < (L : Int) by first | exact sx_in hi (by decide) | omega) ?_))))
  have sr12 : rng (sc xs (i + 4)) := sc_rng
  refine z_aload_n X (x := q1) rfl (List.Mem.head _) (z_load X (x := i) rfl (List.Mem.tail _ (List.Mem.tail _ (List.Mem.tail _ (List.Mem.tail _ (List.Mem.head _))))) (z_const X rfl (z_add X rfl (z_sld X S hL rfl (show 0 ≤ (i + 5) ∧ (i + 5) < (L : Int) by first | exact sx_in hi (by decide) | omega) ?_))))
  have sr13 : rng (sc xs (i + 5)) := sc_rng
  refine z_callV X 0 (rm := rmN 135) (As := [.int (Int32.ofInt (sc xs (i + 1))), .int (Int32.ofInt (sc xs (i + 2))), .int (Int32.ofInt (sc xs (i + 3))), .int (Int32.ofInt (sc xs (i + 4))), .int (Int32.ofInt (sc xs (i + 5)))]) (st := []) rfl rfl (by decide) rfl (by rw [E.1, E.2.1, E.2.2.1]; exact cs_feed2 G I (by first | exact ⟨sr9.1, sr9.2⟩ | omega) (by first | exact ⟨sr10.1, sr10.2⟩ | omega) (by first | exact ⟨sr11.1, sr11.2⟩ | omega) (by first | exact ⟨sr12.1, sr12.2⟩ | omega) (by first | exact ⟨sr13.1, sr13.2⟩ | omega)) ⟨by rw [E.2.2.2]; exact (show 8 + 1 ≤ 2048 from oq_5bf2829b), by rw [E.2.2.2]; exact (show 8 + (6 + 11) + 147 ≤ 84000 from oq_e23742ae), by rw [E.2.2.2]; exact (show ce + 0 ≤ 601024 by first | exact oq_349a7c72 hce | omega), by rw [E.2.2.2]; exact (show sl + 0 ≤ 7293034 by first | exact oq_9a8748d4 hsl | omega)⟩ (Nat.le_of_ble_eq_true rfl) (fun vv s14 hq => ?_) (fun ee s14 hq => ?_)
  rotate_left
  · obtain ⟨Is14, Fs14, e15, hv, hrs14, hps14⟩ := hq; cases hv
  obtain ⟨Is14, Fs14, e15, hv, hrs14, hps14⟩ := hq
  cases hv
  have JRLx_s14 : RLx s14 := RLx_fm Fs14 (by decide) jR
  have JARJ_s14 : ARJ s14 := ARJ_fm Fs14 ⟨by decide +kernel, by decide +kernel, by decide +kernel, by decide +kernel, by decide +kernel, by decide +kernel, by decide +kernel, by decide +kernel⟩ jARJ
  have JPTJ_s14 : PTJ s14 := PTJ_fm Fs14 (by decide +kernel) jPTJ
  have b16 := bi_0 Is14
  have ws14_74 : iI s14 74 = iI s 74 := fm_iq Fs14 rfl
  have ws14_9 : iI s14 9 = iI s 9 := fm_iq Fs14 rfl
  have ws14_90 : iI s14 90 = iI s 90 := fm_iq Fs14 rfl
  have ws14_20 : iI s14 20 = iI s 20 := fm_iq Fs14 rfl
  have ws14_98 : iI s14 98 = iI s 98 := fm_iq Fs14 rfl
  have ws14_12 : iI s14 12 = iI s 12 := fm_iq Fs14 rfl
  have ws14_89 : iI s14 89 = iI s 89 := fm_iq Fs14 rfl
  have wos14 : iO s14 = iO s := fm_o Fs14 (by decide)
  show WS k 266 [(0, .ref q1), (1, .ref (A 0)), (2, .ref (A 179)), (3, .ref (A 517)), (4, .int (Int32.ofInt i))] [.int (Int32.ofInt e15)] (Wd A dT s14) ce sl
  refine w_pop X.1 (ax_d X (show cdA 350 266 = some (.pop, 1, 0, 0, 0) from rfl)) rfl (z_aload_n X (x := A 179) rfl (List.Mem.tail _ (List.Mem.tail _ (List.Mem.head _))) (z_aload_n X (x := q1) rfl (List.Mem.head _) (z_load X (x := i) rfl (List.Mem.tail _ (List.Mem.tail _ (List.Mem.tail _ (List.Mem.tail _ (List.Mem.head _))))) (z_const X rfl (z_add X rfl (z_sld X S hL rfl (show 0 ≤ (i + 1) ∧ (i + 1) < (L : Int) by first | exact sx_in hi (by decide) | omega) ?_))))))
  have sr17 : rng (sc xs (i + 1)) := sc_rng
  refine z_aload_n X (x := q1) rfl (List.Mem.head _) (z_load X (x := i) rfl (List.Mem.tail _ (List.Mem.tail _ (List.Mem.tail _ (List.Mem.tail _ (List.Mem.head _))))) (z_const X rfl (z_add X rfl (z_sld X S hL rfl (show 0 ≤ (i + 2) ∧ (i + 2) < (L : Int) by first | exact sx_in hi (by decide) | omega) ?_))))
  have sr18 : rng (sc xs (i + 2)) := sc_rng
  refine z_aload_n X (x := q1) rfl (List.Mem.head _) (z_load X (x := i) rfl (List.Mem.tail _ (List.Mem.tail _ (List.Mem.tail _ (List.Mem.tail _ (List.Mem.head _))))) (z_const X rfl (z_add X rfl (z_sld X S hL rfl (show 0 ≤ (i + 3) ∧ (i + 3) < (L : Int) by first | exact sx_in hi (by decide) | omega) ?_))))
  have sr19 : rng (sc xs (i + 3)) := sc_rng
  refine z_aload_n X (x := q1) rfl (List.Mem.head _) (z_load X (x := i) rfl (List.Mem.tail _ (List.Mem.tail _ (List.Mem.tail _ (List.Mem.tail _ (List.Mem.head _))))) (z_const X rfl (z_add X rfl (z_sld X S hL rfl (show 0 ≤ (i + 4) ∧ (i + 4) < (L : Int) by first | exact sx_in hi (by decide) | omega) ?_))))
  have sr20 : rng (sc xs (i + 4)) := sc_rng
  refine z_aload_n X (x := q1) rfl (List.Mem.head _) (z_load X (x := i) rfl (List.Mem.tail _ (List.Mem.tail _ (List.Mem.tail _ (List.Mem.tail _ (List.Mem.head _))))) (z_const X rfl (z_add X rfl (z_sld X S hL rfl (show 0 ≤ (i + 5) ∧ (i + 5) < (L : Int) by first | exact sx_in hi (by decide) | omega) ?_))))
  have sr21 : rng (sc xs (i + 5)) := sc_rng
  refine z_callV X 179 (rm := rmN 191) (As := [.int (Int32.ofInt (sc xs (i + 1))), .int (Int32.ofInt (sc xs (i + 2))), .int (Int32.ofInt (sc xs (i + 3))), .int (Int32.ofInt (sc xs (i + 4))), .int (Int32.ofInt (sc xs (i + 5)))]) (st := []) rfl rfl (by decide) rfl (by rw [E.1, E.2.1, E.2.2.1]; exact k_feed2 G Is14 (by first | exact ⟨sr17.1, sr17.2⟩ | omega) (by first | exact ⟨sr18.1, sr18.2⟩ | omega) (by first | exact ⟨sr19.1, sr19.2⟩ | omega) (by first | exact ⟨sr20.1, sr20.2⟩ | omega) (by first | exact ⟨sr21.1, sr21.2⟩ | omega)) ⟨by rw [E.2.2.2]; exact (show 6 + 1 ≤ 2048 from oq_4d34cb53), by rw [E.2.2.2]; exact (show 8 + (8 + 11) + 100 ≤ 84000 from oq_e10754c2), by rw [E.2.2.2]; exact (show ce + 0 ≤ 601024 by first | exact oq_349a7c72 hce | (clear hps14; omega) | omega), by rw [E.2.2.2]; exact (show sl + 0 ≤ 7293034 by first | exact oq_9a8748d4 hsl | (clear hps14; omega) | omega)⟩ (Nat.le_of_ble_eq_true rfl) (fun vv s22 hq => ?_) (fun ee s22 hq => ?_)
  rotate_left
  · obtain ⟨Is22, Fs22, e23, hv, hrs22, hps22⟩ := hq; cases hv
  obtain ⟨Is22, Fs22, e23, hv, hrs22, hps22⟩ := hq
  cases hv
  have JRLx_s22 : RLx s22 := RLx_fm Fs22 (by decide) JRLx_s14
  have JARJ_s22 : ARJ s22 := ARJ_fm Fs22 ⟨by decide +kernel, by decide +kernel, by decide +kernel, by decide +kernel, by decide +kernel, by decide +kernel, by decide +kernel, by decide +kernel⟩ JARJ_s14
  have JPTJ_s22 : PTJ s22 := PTJ_fm Fs22 (by decide +kernel) JPTJ_s14
  have ws22_0 : iI s22 0 = iI s14 0 := fm_iq Fs22 rfl
  have b24 := bi_74 Is22
  have ws22_9 : iI s22 9 = iI s14 9 := fm_iq Fs22 rfl
  have ws22_90 : iI s22 90 = iI s14 90 := fm_iq Fs22 rfl
  have ws22_20 : iI s22 20 = iI s14 20 := fm_iq Fs22 rfl
  have ws22_98 : iI s22 98 = iI s14 98 := fm_iq Fs22 rfl
  have ws22_12 : iI s22 12 = iI s14 12 := fm_iq Fs22 rfl
  have ws22_89 : iI s22 89 = iI s14 89 := fm_iq Fs22 rfl
  have wos22 : iO s22 = iO s14 := fm_o Fs22 (by decide)
  show WS k 301 [(0, .ref q1), (1, .ref (A 0)), (2, .ref (A 179)), (3, .ref (A 517)), (4, .int (Int32.ofInt i))] [.int (Int32.ofInt e23)] (Wd A dT s22) ce sl
  rcases hps14 with cc | cc
  ·
    rcases hps22 with mm | mm
    ·
      have jq25 : FEQ s22 := feq_up jFEQ cc.2.2.2 (sam_fm Fs14 (by decide)) mm.2.2.2 (sam_fm Fs22 (by decide)) (by first | exact oq_a9591169 ws14_74 p3 | (clear hps22 hps14; omega) | (clear hps14; omega) | omega) (by first | exact oq_97a8a2b5 mm.2.1 cc.2.1 ws14_74 p3 | (clear hps22 hps14; omega) | (clear hps14; omega) | omega)
      refine w_pop X.1 (ax_d X (show cdA 350 301 = some (.pop, 1, 0, 0, 0) from rfl)) rfl (z_goto X (t := 1894) rfl rfl (w_widen (ce' := ce + 29) (sl' := sl + 222) (by first | exact Nat.le_add_right _ _ | exact Nat.add_le_add_left (by decide) _ | omega) (by first | exact Nat.le_add_right _ _ | exact Nat.add_le_add_left (by decide) _ | omega) ?_))
      exact WS_lv (lv := [(0, .ref q1), (1, .ref (A 0)), (2, .ref (A 179)), (3, .ref (A 517)), (4, .int (Int32.ofInt i))]) (List.forall_mem_cons.mpr ⟨(List.Mem.head _), (List.forall_mem_cons.mpr ⟨(List.Mem.tail _ (List.Mem.head _)), (List.forall_mem_cons.mpr ⟨(List.Mem.tail _ (List.Mem.tail _ (List.Mem.head _))), (List.forall_mem_cons.mpr ⟨(List.Mem.tail _ (List.Mem.tail _ (List.Mem.tail _ (List.Mem.head _)))), (List.forall_mem_cons.mpr ⟨(List.Mem.tail _ (List.Mem.tail _ (List.Mem.tail _ (List.Mem.tail _ (List.Mem.head _))))), (fun q h => absurd h List.not_mem_nil)⟩)⟩)⟩)⟩)⟩) (hk A _ Is22 JRLx_s22 jq25 JARJ_s22 JPTJ_s22 (by first | exact oq_f34933ba ws22_89 ws14_89 p1 b8.1 | omega) (by first | exact oq_d7ce4408 ws22_12 ws14_12 p2 | omega) (by first | exact oq_e057f278 mm.2.1 cc.2.1 ws22_0 ws14_74 p3 | (clear hps22 hps14; omega) | (clear hps14; omega) | omega) (by first | exact oq_5bcdc35f ws22_90 ws22_9 ws14_90 ws14_9 p4 | omega) (by first | exact oq_5bcdc35f ws22_98 ws22_20 ws14_98 ws14_20 p5 | omega))
    ·
      exfalso
      omega
  ·
    rcases hps22 with mm | mm
    ·
      exfalso
      omega
    ·
      have jq26 : FEQ s22 := feq_sam jFEQ (sam_ts (sam_fm Fs14 (by decide)) mm.2.2.2) (sam_ts cc.2.2.2 (sam_fm Fs22 (by decide)))
      refine w_pop X.1 (ax_d X (show cdA 350 301 = some (.pop, 1, 0, 0, 0) from rfl)) rfl (z_goto X (t := 1894) rfl rfl (w_widen (ce' := ce + 29) (sl' := sl + 222) (by first | exact Nat.le_add_right _ _ | exact Nat.add_le_add_left (by decide) _ | omega) (by first | exact Nat.le_add_right _ _ | exact Nat.add_le_add_left (by decide) _ | omega) ?_))
      exact WS_lv (lv := [(0, .ref q1), (1, .ref (A 0)), (2, .ref (A 179)), (3, .ref (A 517)), (4, .int (Int32.ofInt i))]) (List.forall_mem_cons.mpr ⟨(List.Mem.head _), (List.forall_mem_cons.mpr ⟨(List.Mem.tail _ (List.Mem.head _)), (List.forall_mem_cons.mpr ⟨(List.Mem.tail _ (List.Mem.tail _ (List.Mem.head _))), (List.forall_mem_cons.mpr ⟨(List.Mem.tail _ (List.Mem.tail _ (List.Mem.tail _ (List.Mem.head _)))), (List.forall_mem_cons.mpr ⟨(List.Mem.tail _ (List.Mem.tail _ (List.Mem.tail _ (List.Mem.tail _ (List.Mem.head _))))), (fun q h => absurd h List.not_mem_nil)⟩)⟩)⟩)⟩)⟩) (hk A _ Is22 JRLx_s22 jq26 JARJ_s22 JPTJ_s22 (by first | exact oq_f34933ba ws22_89 ws14_89 p1 b8.1 | omega) (by first | exact oq_d7ce4408 ws22_12 ws14_12 p2 | omega) (by first | exact oq_acd11fb1 mm.2.1 cc.2.1 ws22_0 ws14_74 p3 | (clear hps22 hps14; omega) | (clear hps14; omega) | omega) (by first | exact oq_5bcdc35f ws22_90 ws22_9 ws14_90 ws14_9 p4 | omega) (by first | exact oq_5bcdc35f ws22_98 ws22_20 ws14_98 ws14_20 p5 | omega))
theorem lc_1 (G : GX l s0 D tys a0 dT) (GR : RS0 s0) (SF : SF0 s0) (GT : TXs0 s0) (GW : TXw0 s0) {k : kx_T} (X : AX k 350 dT) (E : kL k = l ∧ kS0 k = s0 ∧ kD k = D ∧ kR k = room_1) {q1 L : Nat} {xs : Nat → Int32} (S : SX k q1 L xs) (hL : L ≤ 3072) (I : Bd s) (jR : RLx s) (jFEQ : FEQ s) (jARJ : ARJ s) (jPTJ : PTJ s) (p1 : iI s 89 = 1) (p2 : iI s 12 ≤ 8) (p3 : iI s 0 = iI s 74) (p4 : iI s 9 = iI s 90) (p5 : iI s 20 = iI s 98) {i : Int} (hi : 0 ≤ i ∧ i + 6 ≤ (L : Int)) {ce sl : Nat} (hce : ce + 29 ≤ 601024) (hsl : sl + 222 ≤ 7293034) (hk : ∀ (A : Nat → Nat) (t : PS), Bd t → RLx t → FEQ t → ARJ t → PTJ t → iI t 89 = 1 → iI t 12 ≤ 8 → iI t 0 = iI t 74 → iI t 9 = iI t 90 → iI t 20 = iI t 98 → WS k 1894 [(0, .ref q1), (1, .ref (A 0)), (2, .ref (A 179)), (3, .ref (A 517)), (4, .int (Int32.ofInt i))] [] (Wd A dT t) (ce + 29) (sl + 222)) : WS k 305 [(0, .ref q1), (1, .ref (A 0)), (2, .ref (A 179)), (3, .ref (A 517)), (4, .int (Int32.ofInt i))] [] (Wd A dT s) ce sl := by
  have F : Fm [11, 9, 10, 2, 4, 6, 5, 1, 3, 0, 7, 8, 73, 74, 76, 90, 91, 77, 75, 78, 79, 80, 81] [15, 1, 2, 6, 1003, 1004, 1005, 1007, 1460, 165, 162, 166, 167, 168, 169, 170, 171, 172, 173, 174, 175, 176, 177, 178, 179, 180, 181, 182, 183, 184, 185, 186, 187, 188, 189] s s := fm_rf _ _ s
  have b1 := bi_0 I
  have b2 := bi_74 I
  have b3 := bi_9 I
  have b4 := bi_90 I
  have b5 := bi_20 I
  have b6 := bi_98 I
  have b7 := bi_12 I
  have b8 := bi_89 I
  refine z_aload_n X (x := A 0) rfl (List.Mem.tail _ (List.Mem.head _)) (z_aload_n X (x := q1) rfl (List.Mem.head _) (z_load X (x := i) rfl (List.Mem.tail _ (List.Mem.tail _ (List.Mem.tail _ (List.Mem.tail _ (List.Mem.head _))))) (z_const X rfl (z_add X rfl (z_sld X S hL rfl (show 0 ≤ (i + 1) ∧ (i + 1) < (L : Int) by first | exact sx_in hi (by decide) | omega) ?_)))))
  have sr9 : rng (sc xs (i + 1)) := sc_rng
  refine z_aload_n X (x := A 517) rfl (List.Mem.tail _ (List.Mem.tail _ (List.Mem.tail _ (List.Mem.head _)))) (z_callL X (rm := rmN 314) (As := [.ref (A 0), .int (Int32.ofInt (sc xs (i + 1))), .ref (A 517)]) (st := []) rfl (by decide) rfl (by rw [E.1, E.2.1, E.2.2.1]; exact lw_stream5 (B := (fun i => iC s 0 i)) G I (fun _ _ => rfl) jARJ.2.2.2.2.2.1 jARJ.2.2.2.2.2.2.1 (by first | exact And.intro (sr9.1) (sr9.2) | omega)) ⟨by rw [E.2.2.2]; exact (show 11 + 1 ≤ 2048 by decide), by rw [E.2.2.2]; exact (show 8 + (4 + 11) + 213 ≤ 84000 by decide), by rw [E.2.2.2]; exact (show ce + 1 ≤ 601024 by first | exact rmo_1 hce (by decide) | exact rmo_2 hce (by decide) | omega), by rw [E.2.2.2]; exact (show sl + 6 ≤ 7293034 by first | exact rmo_1 hsl (by decide) | exact rmo_2 hsl (by decide) | omega)⟩ (Nat.le_of_ble_eq_true rfl) (fun vv A s10 hA2 hq => ?_) (fun ee A s10 hA2 hq => ?_))
  rotate_left
  · obtain ⟨Is10, Fs10, JAIR_s10, JCPL_s10, e11, hv, hrs10, hps10⟩ := hq; cases hv
  obtain ⟨Is10, Fs10, JAIR_s10, JCPL_s10, e11, hv, hrs10, hps10⟩ := hq
  cases hv
  rw [← hA2 0 (by decide)]
  rw [← hA2 179 (by decide)]
  rw [← hA2 517 (by decide)]
  have JRLx_s10 : RLx s10 := RLx_fm Fs10 (by decide) jR
  have JFEQ_s10 : FEQ s10 := FEQ_fm Fs10 (by decide) jFEQ
  have JPTJ_s10 : PTJ s10 := PTJ_fm Fs10 (by decide +kernel) jPTJ
  have JLIJ_s10 : LIJ s10 := LIJ_fm Fs10 (by decide +kernel) jARJ.2.1
  have JMQJ_s10 : MQJ s10 := MQJ_fm Fs10 (by decide +kernel) jARJ.2.2.1
  have JRLJ_s10 : RLJ s10 := RLJ_fm Fs10 (by decide +kernel) jARJ.2.2.2.2.2.2.2
  have b12 := bi_0 Is10
  have ws10_74 : iI s10 74 = iI s 74 := fm_iq Fs10 rfl
  have b13 := bi_9 Is10
  have ws10_90 : iI s10 90 = iI s 90 := fm_iq Fs10 rfl
  have ws10_20 : iI s10 20 = iI s 20 := fm_iq Fs10 rfl
  have ws10_98 : iI s10 98 = iI s 98 := fm_iq Fs10 rfl
  have ws10_12 : iI s10 12 = iI s 12 := fm_iq Fs10 rfl
  have ws10_89 : iI s10 89 = iI s 89 := fm_iq Fs10 rfl
  show WS k 316 [(0, .ref q1), (1, .ref (A 0)), (2, .ref (A 179)), (3, .ref (A 517)), (4, .int (Int32.ofInt i))] [.int (Int32.ofInt e11)] (Wd A dT s10) (ce + 1) (sl + 6)
  refine z_store X (lv' := [(5, .int (Int32.ofInt e11)), (0, .ref q1), (1, .ref (A 0)), (2, .ref (A 179)), (3, .ref (A 517)), (4, .int (Int32.ofInt i))]) rfl (by decide) (fun _ h => h) (z_aload_n X (x := A 179) rfl (List.Mem.tail _ (List.Mem.tail _ (List.Mem.tail _ (List.Mem.head _)))) (z_aload_n X (x := q1) rfl (List.Mem.tail _ (List.Mem.head _)) (z_load X (x := i) rfl (List.Mem.tail _ (List.Mem.tail _ (List.Mem.tail _ (List.Mem.tail _ (List.Mem.tail _ (List.Mem.head _)))))) (z_const X rfl (z_add X rfl (z_sld X S hL rfl (show 0 ≤ (i + 1) ∧ (i + 1) < (L : Int) by first | exact sx_in hi (by decide) | omega) ?_))))))
  have sr14 : rng (sc xs (i + 1)) := sc_rng
  have hFD : FDA (fun i => iC s 0 i) s10 := fun i hi => (fm_c Fs10 (by decide)).trans (jFEQ i hi)
  refine z_callV X 179 (rm := rmN 200) (As := [.int (Int32.ofInt (sc xs (i + 1)))]) (st := []) rfl rfl (by decide) rfl (by rw [E.1, E.2.1, E.2.2.1]; exact k_stream3 (B := (fun i => iC s 0 i)) G Is10 JRLx_s10 hFD (by first | exact ⟨sr14.1, sr14.2⟩ | omega)) ⟨by rw [E.2.2.2]; exact (show 10 + 1 ≤ 2048 from oq_5655e407), by rw [E.2.2.2]; exact (show 8 + (3 + 11) + 191 ≤ 84000 from oq_0b5c09a5), by rw [E.2.2.2]; exact (show (ce + 1) + 0 ≤ 601024 by first | exact oq_398737bb hce | (clear hps10; omega) | omega), by rw [E.2.2.2]; exact (show (sl + 6) + 0 ≤ 7293034 by first | exact oq_140060cc hsl | (clear hps10; omega) | omega)⟩ (Nat.le_of_ble_eq_true rfl) (fun vv s15 hq => ?_) (fun ee s15 hq => ?_)
  rotate_left
  · obtain ⟨Is15, Fs15, JRLx_s15, JFDA_s15, e16, hv, hrs15, hps15⟩ := hq; cases hv
  obtain ⟨Is15, Fs15, JRLx_s15, JFDA_s15, e16, hv, hrs15, hps15⟩ := hq
  have hps15p := hps15.2
  cases hv
  have JFEQ_s15 : FEQ s15 := FEQ_fm Fs15 (by decide) JFEQ_s10
  have JPTJ_s15 : PTJ s15 := PTJ_fm Fs15 (by decide +kernel) JPTJ_s10
  have JMQJ_s15 : MQJ s15 := MQJ_fm Fs15 (by decide +kernel) JMQJ_s10
  have JRLJ_s15 : RLJ s15 := RLJ_fm Fs15 (by decide +kernel) JRLJ_s10
  have JAIR_s15 : AIR s15 := AIR_fm Fs15 (by decide +kernel) JAIR_s10
  have JCPL_s15 : CPL s15 := CPL_fm Fs15 (by decide +kernel) JCPL_s10
  have JFDA_s15 : FDA (fun i => iC s 0 i) s15 := FDA_fm Fs15 (by decide) hFD
  have ws15_0 : iI s15 0 = iI s10 0 := fm_iq Fs15 rfl
  have b17 := bi_74 Is15
  have ws15_9 : iI s15 9 = iI s10 9 := fm_iq Fs15 rfl
  have b18 := bi_90 Is15
  have ws15_20 : iI s15 20 = iI s10 20 := fm_iq Fs15 rfl
  have ws15_98 : iI s15 98 = iI s10 98 := fm_iq Fs15 rfl
  have ws15_12 : iI s15 12 = iI s10 12 := fm_iq Fs15 rfl
  have ws15_89 : iI s15 89 = iI s10 89 := fm_iq Fs15 rfl
  have wos15 : iO s15 = iO s10 := fm_o Fs15 (by decide)
  show WS k 328 [(5, .int (Int32.ofInt e11)), (0, .ref q1), (1, .ref (A 0)), (2, .ref (A 179)), (3, .ref (A 517)), (4, .int (Int32.ofInt i))] [.int (Int32.ofInt e16)] (Wd A dT s15) (ce + 1) (sl + 6)
  have hM1 := hps15.1
  have hM2 := hps15.2
  rcases hps10 with cc | cc
  ·
    rcases hM1 with mm | mm
    ·
      have rq19 := str_eq2 cc.2.2.2.2.2.1 mm.2 (by first | exact oq_f6b042d5 ws10_90 p4 | (clear hps15 hps10; omega) | (clear hps10; omega) | omega)
      have rq20 := strx_c cc.2.2.2.2.2.1
      have jb21 : ARJ s15 := ⟨wqj_up jARJ.1 cc.2.2.2.2.2.2 (swm_fm Fs10 (by decide +kernel)) hM2 (sam_fm Fs15 (by decide)) (sam_fm Fs15 (by decide)) (by first | exact ws15_9 | (clear hps15 hps10; omega) | (clear hps10; omega) | omega) (by first | exact ws10_90 | (clear hps15 hps10; omega) | (clear hps10; omega) | omega) (by first | exact p4 | (clear hps15 hps10; omega) | (clear hps10; omega) | omega) (by first | exact oq_27118732 rq19 ws15_9 | (clear hps15 hps10; omega) | (clear hps10; omega) | omega) rfl ⟨by first | exact b3.1 | (clear hps15 hps10; omega) | (clear hps10; omega) | omega, by first | exact b13.2 | (clear hps15 hps10; omega) | (clear hps10; omega) | omega⟩ I, lij_up hM2 JLIJ_s10 (by first | exact oq_e4757433 ws10_90 b4.1 | (clear hps15 hps10; omega) | (clear hps10; omega) | omega) (by first | exact b18.2 | (clear hps15 hps10; omega) | (clear hps10; omega) | omega), JMQJ_s15, nzj_st jARJ.2.2.2.1 (by first | exact oq_36ebf2bf rq20 ws15_9 | (clear hps15 hps10; omega) | (clear hps10; omega) | omega) (sam_ts (sam_fm Fs10 (by decide +kernel) : SAM 8 _ _) (sam_fm Fs15 (by decide +kernel))), twj_st jARJ.2.2.2.2.1 jARJ.2.2.2.1 jARJ.2.2.1.1 (by first | exact b3.1 | (clear hps15 hps10; omega) | (clear hps10; omega) | omega) (by first | exact oq_8ab0b9ca ws15_9 b13.2 | (clear hps15 hps10; omega) | (clear hps10; omega) | omega) (by first | exact oq_af5b6c12 rq20 ws15_9 | (clear hps15 hps10; omega) | (clear hps10; omega) | omega) (sam_ts (sam_fm Fs10 (by decide +kernel) : SAM 14 _ _) (sam_fm Fs15 (by decide +kernel))) (sam_ts (sam_fm Fs10 (by decide +kernel) : SAM 11 _ _) (sam_fm Fs15 (by decide +kernel))), JAIR_s15, JCPL_s15, JRLJ_s15⟩
      refine z_store X (lv' := [(6, .int (Int32.ofInt e16)), (5, .int (Int32.ofInt e11)), (0, .ref q1), (1, .ref (A 0)), (2, .ref (A 179)), (3, .ref (A 517)), (4, .int (Int32.ofInt i))]) rfl (by decide) (fun _ h => h) (z_goto X (t := 1894) rfl rfl (w_widen (ce' := ce + 29) (sl' := sl + 222) (by first | exact Nat.le_add_right _ _ | exact Nat.add_le_add_left (by decide) _ | omega) (by first | exact Nat.le_add_right _ _ | exact Nat.add_le_add_left (by decide) _ | omega) ?_))
      exact WS_lv (lv := [(0, .ref q1), (1, .ref (A 0)), (2, .ref (A 179)), (3, .ref (A 517)), (4, .int (Int32.ofInt i))]) (List.forall_mem_cons.mpr ⟨(List.Mem.tail _ (List.Mem.tail _ (List.Mem.head _))), (List.forall_mem_cons.mpr ⟨(List.Mem.tail _ (List.Mem.tail _ (List.Mem.tail _ (List.Mem.head _)))), (List.forall_mem_cons.mpr ⟨(List.Mem.tail _ (List.Mem.tail _ (List.Mem.tail _ (List.Mem.tail _ (List.Mem.head _))))), (List.forall_mem_cons.mpr ⟨(List.Mem.tail _ (List.Mem.tail _ (List.Mem.tail _ (List.Mem.tail _ (List.Mem.tail _ (List.Mem.head _)))))), (List.forall_mem_cons.mpr ⟨(List.Mem.tail _ (List.Mem.tail _ (List.Mem.tail _ (List.Mem.tail _ (List.Mem.tail _ (List.Mem.tail _ (List.Mem.head _))))))), (fun q h => absurd h List.not_mem_nil)⟩)⟩)⟩)⟩)⟩) (hk A _ Is15 JRLx_s15 JFEQ_s15 jb21 JPTJ_s15 (by first | exact oq_f34933ba ws15_89 ws10_89 p1 b8.1 | omega) (by first | exact oq_d7ce4408 ws15_12 ws10_12 p2 | omega) (by first | exact oq_2b80f052 mm.1.2.2.2.1 cc.2.1 ws15_0 | (clear hps15 hps10; omega) | (clear hps10; omega) | omega) (by first | exact oq_27118732 rq19 ws15_9 | (clear hps15 hps10; omega) | (clear hps10; omega) | omega) (by first | exact oq_5bcdc35f ws15_98 ws15_20 ws10_98 ws10_20 p5 | omega))
    ·
      exfalso
      omega
  ·
    rcases hM1 with mm | mm
    ·
      exfalso
      omega
    ·
      have jb22 : ARJ s15 := ⟨wqj_up jARJ.1 (Or.inl ⟨by first | exact cc.2.2.2.1 | (clear hps15 hps10; omega) | (clear hps10; omega) | omega, cc.2.2.2.2.1, cc.2.2.2.2.2⟩) (swm_fm Fs10 (by decide +kernel)) hM2 (sam_fm Fs15 (by decide)) (sam_fm Fs15 (by decide)) (by first | exact ws15_9 | (clear hps15 hps10; omega) | (clear hps10; omega) | omega) (by first | exact ws10_90 | (clear hps15 hps10; omega) | (clear hps10; omega) | omega) (by first | exact p4 | (clear hps15 hps10; omega) | (clear hps10; omega) | omega) (by first | exact oq_acd11fb1 mm.2.2.2 cc.2.2.2.1 ws15_9 ws10_90 p4 | (clear hps15 hps10; omega) | (clear hps10; omega) | omega) rfl ⟨by first | exact b3.1 | (clear hps15 hps10; omega) | (clear hps10; omega) | omega, by first | exact b13.2 | (clear hps15 hps10; omega) | (clear hps10; omega) | omega⟩ I, lij_up hM2 JLIJ_s10 (by first | exact oq_151a919a mm.2.2.2 b18.1 | (clear hps15 hps10; omega) | (clear hps10; omega) | omega) (by first | exact b18.2 | (clear hps15 hps10; omega) | (clear hps10; omega) | omega), JMQJ_s15, nzj_st jARJ.2.2.2.1 (by first | exact oq_36826491 cc.2.2.2.1 ws15_9 | (clear hps15 hps10; omega) | (clear hps10; omega) | omega) (sam_ts (sam_fm Fs10 (by decide +kernel) : SAM 8 _ _) (sam_fm Fs15 (by decide +kernel))), twj_st jARJ.2.2.2.2.1 jARJ.2.2.2.1 jARJ.2.2.1.1 (by first | exact b3.1 | (clear hps15 hps10; omega) | (clear hps10; omega) | omega) (by first | exact oq_8ab0b9ca ws15_9 b13.2 | (clear hps15 hps10; omega) | (clear hps10; omega) | omega) (by first | exact Or.inl (oq_27118732 cc.2.2.2.1 ws15_9) | (clear hps15 hps10; omega) | (clear hps10; omega) | omega) (sam_ts (sam_fm Fs10 (by decide +kernel) : SAM 14 _ _) (sam_fm Fs15 (by decide +kernel))) (sam_ts (sam_fm Fs10 (by decide +kernel) : SAM 11 _ _) (sam_fm Fs15 (by decide +kernel))), JAIR_s15, JCPL_s15, JRLJ_s15⟩
      refine z_store X (lv' := [(6, .int (Int32.ofInt e16)), (5, .int (Int32.ofInt e11)), (0, .ref q1), (1, .ref (A 0)), (2, .ref (A 179)), (3, .ref (A 517)), (4, .int (Int32.ofInt i))]) rfl (by decide) (fun _ h => h) (z_goto X (t := 1894) rfl rfl (w_widen (ce' := ce + 29) (sl' := sl + 222) (by first | exact Nat.le_add_right _ _ | exact Nat.add_le_add_left (by decide) _ | omega) (by first | exact Nat.le_add_right _ _ | exact Nat.add_le_add_left (by decide) _ | omega) ?_))
      exact WS_lv (lv := [(0, .ref q1), (1, .ref (A 0)), (2, .ref (A 179)), (3, .ref (A 517)), (4, .int (Int32.ofInt i))]) (List.forall_mem_cons.mpr ⟨(List.Mem.tail _ (List.Mem.tail _ (List.Mem.head _))), (List.forall_mem_cons.mpr ⟨(List.Mem.tail _ (List.Mem.tail _ (List.Mem.tail _ (List.Mem.head _)))), (List.forall_mem_cons.mpr ⟨(List.Mem.tail _ (List.Mem.tail _ (List.Mem.tail _ (List.Mem.tail _ (List.Mem.head _))))), (List.forall_mem_cons.mpr ⟨(List.Mem.tail _ (List.Mem.tail _ (List.Mem.tail _ (List.Mem.tail _ (List.Mem.tail _ (List.Mem.head _)))))), (List.forall_mem_cons.mpr ⟨(List.Mem.tail _ (List.Mem.tail _ (List.Mem.tail _ (List.Mem.tail _ (List.Mem.tail _ (List.Mem.tail _ (List.Mem.head _))))))), (fun q h => absurd h List.not_mem_nil)⟩)⟩)⟩)⟩)⟩) (hk A _ Is15 JRLx_s15 JFEQ_s15 jb22 JPTJ_s15 (by first | exact oq_f34933ba ws15_89 ws10_89 p1 b8.1 | omega) (by first | exact oq_d7ce4408 ws15_12 ws10_12 p2 | omega) (by first | exact oq_acd11fb1 mm.2.1 cc.2.1 ws15_0 ws10_74 p3 | (clear hps15 hps10; omega) | (clear hps10; omega) | omega) (by first | exact oq_acd11fb1 mm.2.2.2 cc.2.2.2.1 ws15_9 ws10_90 p4 | (clear hps15 hps10; omega) | (clear hps10; omega) | omega) (by first | exact oq_5bcdc35f ws15_98 ws15_20 ws10_98 ws10_20 p5 | omega))
theorem lc_2 (G : GX l s0 D tys a0 dT) (GR : RS0 s0) (SF : SF0 s0) (GT : TXs0 s0) (GW : TXw0 s0) {k : kx_T} (X : AX k 350 dT) (E : kL k = l ∧ kS0 k = s0 ∧ kD k = D ∧ kR k = room_1) {q1 L : Nat} {xs : Nat → Int32} (S : SX k q1 L xs) (hL : L ≤ 3072) (I : Bd s) (jR : RLx s) (jFEQ : FEQ s) (jARJ : ARJ s) (jPTJ : PTJ s) (p1 : iI s 89 = 1) (p2 : iI s 12 ≤ 8) (p3 : iI s 0 = iI s 74) (p4 : iI s 9 = iI s 90) (p5 : iI s 20 = iI s 98) {i : Int} (hi : 0 ≤ i ∧ i + 6 ≤ (L : Int)) {ce sl : Nat} (hce : ce + 29 ≤ 601024) (hsl : sl + 222 ≤ 7293034) (hk : ∀ (A : Nat → Nat) (t : PS), Bd t → RLx t → FEQ t → ARJ t → PTJ t → iI t 89 = 1 → iI t 12 ≤ 8 → iI t 0 = iI t 74 → iI t 9 = iI t 90 → iI t 20 = iI t 98 → WS k 1894 [(0, .ref q1), (1, .ref (A 0)), (2, .ref (A 179)), (3, .ref (A 517)), (4, .int (Int32.ofInt i))] [] (Wd A dT t) (ce + 29) (sl + 222)) : WS k 333 [(0, .ref q1), (1, .ref (A 0)), (2, .ref (A 179)), (3, .ref (A 517)), (4, .int (Int32.ofInt i))] [] (Wd A dT s) ce sl := by
  have F : Fm [2, 4, 6, 5, 7, 8, 19, 16, 17, 18, 12, 13, 14, 15, 1, 3, 0, 73, 74, 76, 82, 83, 84, 85, 77, 75, 78, 79, 80, 81, 86, 87, 88] [16, 17, 18, 19, 1460, 160, 159, 158] s s := fm_rf _ _ s
  have b1 := bi_0 I
  have b2 := bi_74 I
  have b3 := bi_9 I
  have b4 := bi_90 I
  have b5 := bi_20 I
  have b6 := bi_98 I
  have b7 := bi_12 I
  have b8 := bi_89 I
  refine z_aload_n X (x := A 0) rfl (List.Mem.tail _ (List.Mem.head _)) (z_aload_n X (x := q1) rfl (List.Mem.head _) (z_load X (x := i) rfl (List.Mem.tail _ (List.Mem.tail _ (List.Mem.tail _ (List.Mem.tail _ (List.Mem.head _))))) (z_const X rfl (z_add X rfl (z_sld X S hL rfl (show 0 ≤ (i + 1) ∧ (i + 1) < (L : Int) by first | exact sx_in hi (by decide) | omega) ?_)))))
  have sr9 : rng (sc xs (i + 1)) := sc_rng
  refine z_aload_n X (x := A 517) rfl (List.Mem.tail _ (List.Mem.tail _ (List.Mem.tail _ (List.Mem.head _)))) (z_callL X (rm := rmN 315) (As := [.ref (A 0), .int (Int32.ofInt (sc xs (i + 1))), .ref (A 517)]) (st := []) rfl (by decide) rfl (by rw [E.1, E.2.1, E.2.2.1]; exact lw_rules4 (B := (fun i => iC s 0 i)) G SF GW I (fun _ _ => rfl) (by first | exact And.intro (sr9.1) (sr9.2) | omega) (by first | exact And.intro (b7.1) (p2) | omega)) ⟨by rw [E.2.2.2]; exact (show 71 + 1 ≤ 2048 by decide), by rw [E.2.2.2]; exact (show 8 + (4 + 11) + 3060 ≤ 84000 by decide), by rw [E.2.2.2]; exact (show ce + 1 ≤ 601024 by first | exact rmo_1 hce (by decide) | exact rmo_2 hce (by decide) | omega), by rw [E.2.2.2]; exact (show sl + 6 ≤ 7293034 by first | exact rmo_1 hsl (by decide) | exact rmo_2 hsl (by decide) | omega)⟩ (Nat.le_of_ble_eq_true rfl) (fun vv A s10 hA2 hq => ?_) (fun ee A s10 hA2 hq => ?_))
  rotate_left
  · obtain ⟨Is10, Fs10, e11, hv, hrs10, hps10⟩ := hq; cases hv
  obtain ⟨Is10, Fs10, e11, hv, hrs10, hps10⟩ := hq
  have hps10p := hps10.2
  cases hv
  rw [← hA2 0 (by decide)]
  rw [← hA2 179 (by decide)]
  rw [← hA2 517 (by decide)]
  have JRLx_s10 : RLx s10 := RLx_fm Fs10 (by decide) jR
  have JFEQ_s10 : FEQ s10 := FEQ_fm Fs10 (by decide) jFEQ
  have JPTJ_s10 : PTJ s10 := PTJ_fm Fs10 (by decide +kernel) jPTJ
  have JWQJ_s10 : WQJ s10 := WQJ_fm Fs10 (by decide +kernel) jARJ.1
  have JLIJ_s10 : LIJ s10 := LIJ_fm Fs10 (by decide +kernel) jARJ.2.1
  have JMQJ_s10 : MQJ s10 := MQJ_fm Fs10 (by decide +kernel) jARJ.2.2.1
  have JNZJ_s10 : NZJ s10 := NZJ_fm Fs10 (by decide) jARJ.2.2.2.1
  have JTWJ_s10 : TWJ s10 := TWJ_fm Fs10 (by decide +kernel) jARJ.2.2.2.2.1
  have JAIR_s10 : AIR s10 := AIR_fm Fs10 (by decide +kernel) jARJ.2.2.2.2.2.1
  have JCPL_s10 : CPL s10 := CPL_fm Fs10 (by decide +kernel) jARJ.2.2.2.2.2.2.1
  have b12 := bi_0 Is10
  have ws10_74 : iI s10 74 = iI s 74 := fm_iq Fs10 rfl
  have ws10_9 : iI s10 9 = iI s 9 := fm_iq Fs10 rfl
  have ws10_90 : iI s10 90 = iI s 90 := fm_iq Fs10 rfl
  have ws10_20 : iI s10 20 = iI s 20 := fm_iq Fs10 rfl
  have ws10_98 : iI s10 98 = iI s 98 := fm_iq Fs10 rfl
  have b13 := bi_12 Is10
  have ws10_89 : iI s10 89 = iI s 89 := fm_iq Fs10 rfl
  show WS k 344 [(0, .ref q1), (1, .ref (A 0)), (2, .ref (A 179)), (3, .ref (A 517)), (4, .int (Int32.ofInt i))] [.int (Int32.ofInt e11)] (Wd A dT s10) (ce + 1) (sl + 6)
  refine z_store X (lv' := [(5, .int (Int32.ofInt e11)), (0, .ref q1), (1, .ref (A 0)), (2, .ref (A 179)), (3, .ref (A 517)), (4, .int (Int32.ofInt i))]) rfl (by decide) (fun _ h => h) (z_aload_n X (x := A 179) rfl (List.Mem.tail _ (List.Mem.tail _ (List.Mem.tail _ (List.Mem.head _)))) (z_aload_n X (x := q1) rfl (List.Mem.tail _ (List.Mem.head _)) (z_load X (x := i) rfl (List.Mem.tail _ (List.Mem.tail _ (List.Mem.tail _ (List.Mem.tail _ (List.Mem.tail _ (List.Mem.head _)))))) (z_const X rfl (z_add X rfl (z_sld X S hL rfl (show 0 ≤ (i + 1) ∧ (i + 1) < (L : Int) by first | exact sx_in hi (by decide) | omega) ?_))))))
  have sr14 : rng (sc xs (i + 1)) := sc_rng
  have hFD : FDA (fun i => iC s 0 i) s10 := fun i hi => (fm_c Fs10 (by decide)).trans (jFEQ i hi)
  refine z_callV X 179 (rm := rmN 214) (As := [.int (Int32.ofInt (sc xs (i + 1)))]) (st := []) rfl rfl (by decide) rfl (by rw [E.1, E.2.1, E.2.2.1]; exact k_rules4 (B := (fun i => iC s 0 i)) G Is10 hFD (by first | exact ⟨sr14.1, sr14.2⟩ | omega)) ⟨by rw [E.2.2.2]; exact (show 61 + 1 ≤ 2048 from oq_0ed3bd18), by rw [E.2.2.2]; exact (show 8 + (3 + 11) + 2660 ≤ 84000 from oq_735d5381), by rw [E.2.2.2]; exact (show (ce + 1) + 0 ≤ 601024 by first | exact oq_398737bb hce | (clear hps10; omega) | omega), by rw [E.2.2.2]; exact (show (sl + 6) + 0 ≤ 7293034 by first | exact oq_140060cc hsl | (clear hps10; omega) | omega)⟩ (Nat.le_of_ble_eq_true rfl) (fun vv s15 hq => ?_) (fun ee s15 hq => ?_)
  rotate_left
  · obtain ⟨Is15, Fs15, JFDA_s15, e16, hv, hrs15, hps15⟩ := hq; cases hv
  obtain ⟨Is15, Fs15, JFDA_s15, e16, hv, hrs15, hps15⟩ := hq
  cases hv
  have JRLx_s15 : RLx s15 := RLx_fm Fs15 (by decide) JRLx_s10
  have JFEQ_s15 : FEQ s15 := FEQ_fm Fs15 (by decide) JFEQ_s10
  have JPTJ_s15 : PTJ s15 := PTJ_fm Fs15 (by decide +kernel) JPTJ_s10
  have JWQJ_s15 : WQJ s15 := WQJ_fm Fs15 (by decide +kernel) JWQJ_s10
  have JLIJ_s15 : LIJ s15 := LIJ_fm Fs15 (by decide +kernel) JLIJ_s10
  have JMQJ_s15 : MQJ s15 := MQJ_fm Fs15 (by decide +kernel) JMQJ_s10
  have JNZJ_s15 : NZJ s15 := NZJ_fm Fs15 (by decide) JNZJ_s10
  have JTWJ_s15 : TWJ s15 := TWJ_fm Fs15 (by decide +kernel) JTWJ_s10
  have JAIR_s15 : AIR s15 := AIR_fm Fs15 (by decide +kernel) JAIR_s10
  have JCPL_s15 : CPL s15 := CPL_fm Fs15 (by decide +kernel) JCPL_s10
  have JFDA_s15 : FDA (fun i => iC s 0 i) s15 := FDA_fm Fs15 (by decide) hFD
  have ws15_0 : iI s15 0 = iI s10 0 := fm_iq Fs15 rfl
  have b17 := bi_74 Is15
  have ws15_9 : iI s15 9 = iI s10 9 := fm_iq Fs15 rfl
  have ws15_90 : iI s15 90 = iI s10 90 := fm_iq Fs15 rfl
  have ws15_20 : iI s15 20 = iI s10 20 := fm_iq Fs15 rfl
  have ws15_98 : iI s15 98 = iI s10 98 := fm_iq Fs15 rfl
  have ws15_12 : iI s15 12 = iI s10 12 := fm_iq Fs15 rfl
  have ws15_89 : iI s15 89 = iI s10 89 := fm_iq Fs15 rfl
  have wos15 : iO s15 = iO s10 := fm_o Fs15 (by decide)
  show WS k 356 [(5, .int (Int32.ofInt e11)), (0, .ref q1), (1, .ref (A 0)), (2, .ref (A 179)), (3, .ref (A 517)), (4, .int (Int32.ofInt i))] [.int (Int32.ofInt e16)] (Wd A dT s15) (ce + 1) (sl + 6)
  have hC8 := hps10.2
  rcases hps10.1 with cc | cc
  ·
    rcases hps15 with mm | mm
    ·
      have hRB := rl_both jARJ.2.2.2.2.2.2.2 cc.2.2.2.2 mm.2.2.2.2 (fm_i Fs15 (by decide +kernel)) (fm_i Fs15 (by decide +kernel)) (sam_fm Fs15 (by decide +kernel)) (sam_fm Fs15 (by decide +kernel)) (fm_i Fs10 (by decide +kernel)) (fm_i Fs10 (by decide +kernel)) (sam_fm Fs10 (by decide +kernel))
      have rq18 := hRB.1
      have jb19 : ARJ s15 := ⟨JWQJ_s15, JLIJ_s15, JMQJ_s15, JNZJ_s15, JTWJ_s15, JAIR_s15, JCPL_s15, hRB.2⟩
      refine z_store X (lv' := [(6, .int (Int32.ofInt e16)), (5, .int (Int32.ofInt e11)), (0, .ref q1), (1, .ref (A 0)), (2, .ref (A 179)), (3, .ref (A 517)), (4, .int (Int32.ofInt i))]) rfl (by decide) (fun _ h => h) (z_goto X (t := 1894) rfl rfl (w_widen (ce' := ce + 29) (sl' := sl + 222) (by first | exact Nat.le_add_right _ _ | exact Nat.add_le_add_left (by decide) _ | omega) (by first | exact Nat.le_add_right _ _ | exact Nat.add_le_add_left (by decide) _ | omega) ?_))
      exact WS_lv (lv := [(0, .ref q1), (1, .ref (A 0)), (2, .ref (A 179)), (3, .ref (A 517)), (4, .int (Int32.ofInt i))]) (List.forall_mem_cons.mpr ⟨(List.Mem.tail _ (List.Mem.tail _ (List.Mem.head _))), (List.forall_mem_cons.mpr ⟨(List.Mem.tail _ (List.Mem.tail _ (List.Mem.tail _ (List.Mem.head _)))), (List.forall_mem_cons.mpr ⟨(List.Mem.tail _ (List.Mem.tail _ (List.Mem.tail _ (List.Mem.tail _ (List.Mem.head _))))), (List.forall_mem_cons.mpr ⟨(List.Mem.tail _ (List.Mem.tail _ (List.Mem.tail _ (List.Mem.tail _ (List.Mem.tail _ (List.Mem.head _)))))), (List.forall_mem_cons.mpr ⟨(List.Mem.tail _ (List.Mem.tail _ (List.Mem.tail _ (List.Mem.tail _ (List.Mem.tail _ (List.Mem.tail _ (List.Mem.head _))))))), (fun q h => absurd h List.not_mem_nil)⟩)⟩)⟩)⟩)⟩) (hk A _ Is15 JRLx_s15 JFEQ_s15 jb19 JPTJ_s15 (by first | exact oq_f34933ba ws15_89 ws10_89 p1 b8.1 | omega) (by first | exact oq_86ef0b17 ws15_12 hps10.2 | omega) (by first | exact oq_2b80f052 mm.2.2.1 cc.2.1 ws15_0 | (clear hps15 hps10; omega) | (clear hps10; omega) | omega) (by first | exact oq_5bcdc35f ws15_90 ws15_9 ws10_90 ws10_9 p4 | omega) (by first | exact oq_5bcdc35f ws15_98 ws15_20 ws10_98 ws10_20 p5 | omega))
    ·
      exfalso
      omega
  ·
    rcases hps15 with mm | mm
    ·
      exfalso
      omega
    ·
      have jb20 : ARJ s15 := ⟨JWQJ_s15, JLIJ_s15, JMQJ_s15, JNZJ_s15, JTWJ_s15, JAIR_s15, JCPL_s15, rlj_s jARJ.2.2.2.2.2.2.2 ((fm_i Fs15 (by decide +kernel)).trans cc.2.2.2.1) ((fm_i Fs15 (by decide +kernel)).trans cc.2.2.2.2.1) (sam_ts cc.2.2.2.2.2.1 (sam_fm Fs15 (by decide +kernel))) (sam_ts cc.2.2.2.2.2.2 (sam_fm Fs15 (by decide +kernel))) (mm.2.2.2.1.trans (fm_i Fs10 (by decide +kernel))) (mm.2.2.2.2.1.trans (fm_i Fs10 (by decide +kernel))) (sam_ts (sam_fm Fs10 (by decide +kernel)) mm.2.2.2.2.2)⟩
      refine z_store X (lv' := [(6, .int (Int32.ofInt e16)), (5, .int (Int32.ofInt e11)), (0, .ref q1), (1, .ref (A 0)), (2, .ref (A 179)), (3, .ref (A 517)), (4, .int (Int32.ofInt i))]) rfl (by decide) (fun _ h => h) (z_goto X (t := 1894) rfl rfl (w_widen (ce' := ce + 29) (sl' := sl + 222) (by first | exact Nat.le_add_right _ _ | exact Nat.add_le_add_left (by decide) _ | omega) (by first | exact Nat.le_add_right _ _ | exact Nat.add_le_add_left (by decide) _ | omega) ?_))
      exact WS_lv (lv := [(0, .ref q1), (1, .ref (A 0)), (2, .ref (A 179)), (3, .ref (A 517)), (4, .int (Int32.ofInt i))]) (List.forall_mem_cons.mpr ⟨(List.Mem.tail _ (List.Mem.tail _ (List.Mem.head _))), (List.forall_mem_cons.mpr ⟨(List.Mem.tail _ (List.Mem.tail _ (List.Mem.tail _ (List.Mem.head _)))), (List.forall_mem_cons.mpr ⟨(List.Mem.tail _ (List.Mem.tail _ (List.Mem.tail _ (List.Mem.tail _ (List.Mem.head _))))), (List.forall_mem_cons.mpr ⟨(List.Mem.tail _ (List.Mem.tail _ (List.Mem.tail _ (List.Mem.tail _ (List.Mem.tail _ (List.Mem.head _)))))), (List.forall_mem_cons.mpr ⟨(List.Mem.tail _ (List.Mem.tail _ (List.Mem.tail _ (List.Mem.tail _ (List.Mem.tail _ (List.Mem.tail _ (List.Mem.head _))))))), (fun q h => absurd h List.not_mem_nil)⟩)⟩)⟩)⟩)⟩) (hk A _ Is15 JRLx_s15 JFEQ_s15 jb20 JPTJ_s15 (by first | exact oq_f34933ba ws15_89 ws10_89 p1 b8.1 | omega) (by first | exact oq_86ef0b17 ws15_12 hps10.2 | omega) (by first | exact oq_acd11fb1 mm.2.1 cc.2.1 ws15_0 ws10_74 p3 | (clear hps15 hps10; omega) | (clear hps10; omega) | omega) (by first | exact oq_5bcdc35f ws15_90 ws15_9 ws10_90 ws10_9 p4 | omega) (by first | exact oq_5bcdc35f ws15_98 ws15_20 ws10_98 ws10_20 p5 | omega))
theorem lc_3 (G : GX l s0 D tys a0 dT) (GR : RS0 s0) (SF : SF0 s0) (GT : TXs0 s0) (GW : TXw0 s0) {k : kx_T} (X : AX k 350 dT) (E : kL k = l ∧ kS0 k = s0 ∧ kD k = D ∧ kR k = room_1) {q1 L : Nat} {xs : Nat → Int32} (S : SX k q1 L xs) (hL : L ≤ 3072) (I : Bd s) (jR : RLx s) (jFEQ : FEQ s) (jARJ : ARJ s) (jPTJ : PTJ s) (p1 : iI s 89 = 1) (p2 : iI s 12 ≤ 8) (p3 : iI s 0 = iI s 74) (p4 : iI s 9 = iI s 90) (p5 : iI s 20 = iI s 98) {i : Int} (hi : 0 ≤ i ∧ i + 6 ≤ (L : Int)) {ce sl : Nat} (hce : ce + 29 ≤ 601024) (hsl : sl + 222 ≤ 7293034) (hk : ∀ (A : Nat → Nat) (t : PS), Bd t → RLx t → FEQ t → ARJ t → PTJ t → iI t 89 = 1 → iI t 12 ≤ 8 → iI t 0 = iI t 74 → iI t 9 = iI t 90 → iI t 20 = iI t 98 → WS k 1894 [(0, .ref q1), (1, .ref (A 0)), (2, .ref (A 179)), (3, .ref (A 517)), (4, .int (Int32.ofInt i))] [] (Wd A dT t) (ce + 29) (sl + 222)) : WS k 361 [(0, .ref q1), (1, .ref (A 0)), (2, .ref (A 179)), (3, .ref (A 517)), (4, .int (Int32.ofInt i))] [] (Wd A dT s) ce sl := by
  have F : Fm [73] [] s s := fm_rf _ _ s
  have b1 := bi_0 I
  have b2 := bi_74 I
  have b3 := bi_9 I
  have b4 := bi_90 I
  have b5 := bi_20 I
  have b6 := bi_98 I
  have b7 := bi_12 I
  have b8 := bi_89 I
  refine z_aload_n X (x := A 0) rfl (List.Mem.tail _ (List.Mem.head _)) (z_callV X 0 (rm := rmN 138) (As := []) (st := []) rfl rfl (by decide) rfl (by rw [E.1, E.2.1, E.2.2.1]; exact cs_fault G I ) ⟨by rw [E.2.2.2]; exact (show 6 + 1 ≤ 2048 from oq_4d34cb53), by rw [E.2.2.2]; exact (show 8 + (1 + 11) + 100 ≤ 84000 from oq_a32dccc4), by rw [E.2.2.2]; exact (show ce + 0 ≤ 601024 by first | exact oq_349a7c72 hce | omega), by rw [E.2.2.2]; exact (show sl + 0 ≤ 7293034 by first | exact oq_9a8748d4 hsl | omega)⟩ (Nat.le_of_ble_eq_true rfl) (fun vv s9 hq => ?_) (fun ee s9 hq => ?_))
  rotate_left
  · obtain ⟨Is9, Fs9, e10, hv, hrs9, hps9⟩ := hq; cases hv
  obtain ⟨Is9, Fs9, e10, hv, hrs9, hps9⟩ := hq
  cases hv
  have JRLx_s9 : RLx s9 := RLx_fm Fs9 (by decide) jR
  have JFEQ_s9 : FEQ s9 := FEQ_fm Fs9 (by decide) jFEQ
  have JARJ_s9 : ARJ s9 := ARJ_fm Fs9 ⟨by decide +kernel, by decide +kernel, by decide +kernel, by decide +kernel, by decide +kernel, by decide +kernel, by decide +kernel, by decide +kernel⟩ jARJ
  have JPTJ_s9 : PTJ s9 := PTJ_fm Fs9 (by decide +kernel) jPTJ
  have ws9_0 : iI s9 0 = iI s 0 := fm_iq Fs9 rfl
  have ws9_74 : iI s9 74 = iI s 74 := fm_iq Fs9 rfl
  have ws9_9 : iI s9 9 = iI s 9 := fm_iq Fs9 rfl
  have ws9_90 : iI s9 90 = iI s 90 := fm_iq Fs9 rfl
  have ws9_20 : iI s9 20 = iI s 20 := fm_iq Fs9 rfl
  have ws9_98 : iI s9 98 = iI s 98 := fm_iq Fs9 rfl
  have ws9_12 : iI s9 12 = iI s 12 := fm_iq Fs9 rfl
  have ws9_89 : iI s9 89 = iI s 89 := fm_iq Fs9 rfl
  have wos9 : iO s9 = iO s := fm_o Fs9 (by decide)
  show WS k 365 [(0, .ref q1), (1, .ref (A 0)), (2, .ref (A 179)), (3, .ref (A 517)), (4, .int (Int32.ofInt i))] [.int (Int32.ofInt e10)] (Wd A dT s9) ce sl
  refine w_pop X.1 (ax_d X (show cdA 350 365 = some (.pop, 1, 0, 0, 0) from rfl)) rfl (z_aload_n X (x := A 179) rfl (List.Mem.tail _ (List.Mem.tail _ (List.Mem.head _))) (z_callV X 179 (rm := rmN 215) (As := []) (st := []) rfl rfl (by decide) rfl (by rw [E.1, E.2.1, E.2.2.1]; exact k_fault G Is9 ) ⟨by rw [E.2.2.2]; exact (show 6 + 1 ≤ 2048 from oq_4d34cb53), by rw [E.2.2.2]; exact (show 8 + (1 + 11) + 100 ≤ 84000 from oq_a32dccc4), by rw [E.2.2.2]; exact (show ce + 0 ≤ 601024 by first | exact oq_349a7c72 hce | omega), by rw [E.2.2.2]; exact (show sl + 0 ≤ 7293034 by first | exact oq_9a8748d4 hsl | omega)⟩ (Nat.le_of_ble_eq_true rfl) (fun vv s11 hq => ?_) (fun ee s11 hq => ?_)))
  rotate_left
  · obtain ⟨Is11, Fs11, e12, hv, hrs11, hps11⟩ := hq; cases hv
  obtain ⟨Is11, Fs11, e12, hv, hrs11, hps11⟩ := hq
  cases hv
  have JRLx_s11 : RLx s11 := RLx_fm Fs11 (by decide) JRLx_s9
  have JFEQ_s11 : FEQ s11 := FEQ_fm Fs11 (by decide) JFEQ_s9
  have JARJ_s11 : ARJ s11 := ARJ_fm Fs11 ⟨by decide +kernel, by decide +kernel, by decide +kernel, by decide +kernel, by decide +kernel, by decide +kernel, by decide +kernel, by decide +kernel⟩ JARJ_s9
  have JPTJ_s11 : PTJ s11 := PTJ_fm Fs11 (by decide +kernel) JPTJ_s9
  have ws11_0 : iI s11 0 = iI s9 0 := fm_iq Fs11 rfl
  have ws11_74 : iI s11 74 = iI s9 74 := fm_iq Fs11 rfl
  have ws11_9 : iI s11 9 = iI s9 9 := fm_iq Fs11 rfl
  have ws11_90 : iI s11 90 = iI s9 90 := fm_iq Fs11 rfl
  have ws11_20 : iI s11 20 = iI s9 20 := fm_iq Fs11 rfl
  have ws11_98 : iI s11 98 = iI s9 98 := fm_iq Fs11 rfl
  have ws11_12 : iI s11 12 = iI s9 12 := fm_iq Fs11 rfl
  have ws11_89 : iI s11 89 = iI s9 89 := fm_iq Fs11 rfl
  have wos11 : iO s11 = iO s9 := fm_o Fs11 (by decide)
  show WS k 370 [(0, .ref q1), (1, .ref (A 0)), (2, .ref (A 179)), (3, .ref (A 517)), (4, .int (Int32.ofInt i))] [.int (Int32.ofInt e12)] (Wd A dT s11) ce sl
  refine w_pop X.1 (ax_d X (show cdA 350 370 = some (.pop, 1, 0, 0, 0) from rfl)) rfl (z_goto X (t := 1894) rfl rfl (w_widen (ce' := ce + 29) (sl' := sl + 222) (by first | exact Nat.le_add_right _ _ | exact Nat.add_le_add_left (by decide) _ | omega) (by first | exact Nat.le_add_right _ _ | exact Nat.add_le_add_left (by decide) _ | omega) ?_))
  exact WS_lv (lv := [(0, .ref q1), (1, .ref (A 0)), (2, .ref (A 179)), (3, .ref (A 517)), (4, .int (Int32.ofInt i))]) (List.forall_mem_cons.mpr ⟨(List.Mem.head _), (List.forall_mem_cons.mpr ⟨(List.Mem.tail _ (List.Mem.head _)), (List.forall_mem_cons.mpr ⟨(List.Mem.tail _ (List.Mem.tail _ (List.Mem.head _))), (List.forall_mem_cons.mpr ⟨(List.Mem.tail _ (List.Mem.tail _ (List.Mem.tail _ (List.Mem.head _)))), (List.forall_mem_cons.mpr ⟨(List.Mem.tail _ (List.Mem.tail _ (List.Mem.tail _ (List.Mem.tail _ (List.Mem.head _))))), (fun q h => absurd h List.not_mem_nil)⟩)⟩)⟩)⟩)⟩) (hk A _ Is11 JRLx_s11 JFEQ_s11 JARJ_s11 JPTJ_s11 (by first | exact oq_f34933ba ws11_89 ws9_89 p1 b8.1 | omega) (by first | exact oq_d7ce4408 ws11_12 ws9_12 p2 | omega) (by first | exact oq_5bcdc35f ws11_74 ws11_0 ws9_74 ws9_0 p3 | omega) (by first | exact oq_5bcdc35f ws11_90 ws11_9 ws9_90 ws9_9 p4 | omega) (by first | exact oq_5bcdc35f ws11_98 ws11_20 ws9_98 ws9_20 p5 | omega))
theorem lc_4 (G : GX l s0 D tys a0 dT) (GR : RS0 s0) (SF : SF0 s0) (GT : TXs0 s0) (GW : TXw0 s0) {k : kx_T} (X : AX k 350 dT) (E : kL k = l ∧ kS0 k = s0 ∧ kD k = D ∧ kR k = room_1) {q1 L : Nat} {xs : Nat → Int32} (S : SX k q1 L xs) (hL : L ≤ 3072) (I : Bd s) (jR : RLx s) (jFEQ : FEQ s) (jARJ : ARJ s) (jPTJ : PTJ s) (p1 : iI s 89 = 1) (p2 : iI s 12 ≤ 8) (p3 : iI s 0 = iI s 74) (p4 : iI s 9 = iI s 90) (p5 : iI s 20 = iI s 98) {i : Int} (hi : 0 ≤ i ∧ i + 6 ≤ (L : Int)) {ce sl : Nat} (hce : ce + 29 ≤ 601024) (hsl : sl + 222 ≤ 7293034) (hk : ∀ (A : Nat → Nat) (t : PS), Bd t → RLx t → FEQ t → ARJ t → PTJ t → iI t 89 = 1 → iI t 12 ≤ 8 → iI t 0 = iI t 74 → iI t 9 = iI t 90 → iI t 20 = iI t 98 → WS k 1894 [(0, .ref q1), (1, .ref (A 0)), (2, .ref (A 179)), (3, .ref (A 517)), (4, .int (Int32.ofInt i))] [] (Wd A dT t) (ce + 29) (sl + 222)) : WS k 374 [(0, .ref q1), (1, .ref (A 0)), (2, .ref (A 179)), (3, .ref (A 517)), (4, .int (Int32.ofInt i))] [] (Wd A dT s) ce sl := by
  have F : Fm [73] [1460] s s := fm_rf _ _ s
  have b1 := bi_0 I
  have b2 := bi_74 I
  have b3 := bi_9 I
  have b4 := bi_90 I
  have b5 := bi_20 I
  have b6 := bi_98 I
  have b7 := bi_12 I
  have b8 := bi_89 I
  refine z_aload_n X (x := A 0) rfl (List.Mem.tail _ (List.Mem.head _)) (z_aload_n X (x := q1) rfl (List.Mem.head _) (z_load X (x := i) rfl (List.Mem.tail _ (List.Mem.tail _ (List.Mem.tail _ (List.Mem.tail _ (List.Mem.head _))))) (z_const X rfl (z_add X rfl (z_sld X S hL rfl (show 0 ≤ (i + 1) ∧ (i + 1) < (L : Int) by first | exact sx_in hi (by decide) | omega) ?_)))))
  have sr9 : rng (sc xs (i + 1)) := sc_rng
  refine z_aload_n X (x := q1) rfl (List.Mem.head _) (z_load X (x := i) rfl (List.Mem.tail _ (List.Mem.tail _ (List.Mem.tail _ (List.Mem.tail _ (List.Mem.head _))))) (z_const X rfl (z_add X rfl (z_sld X S hL rfl (show 0 ≤ (i + 2) ∧ (i + 2) < (L : Int) by first | exact sx_in hi (by decide) | omega) ?_))))
  have sr10 : rng (sc xs (i + 2)) := sc_rng
  refine z_aload_n X (x := A 517) rfl (List.Mem.tail _ (List.Mem.tail _ (List.Mem.tail _ (List.Mem.head _)))) (z_callL X (rm := rmN 316) (As := [.ref (A 0), .int (Int32.ofInt (sc xs (i + 1))), .int (Int32.ofInt (sc xs (i + 2))), .ref (A 517)]) (st := []) rfl (by decide) rfl (by rw [E.1, E.2.1, E.2.2.1]; exact lw_way2 G I (by first | exact And.intro (sr9.1) (sr9.2) | omega) (by first | exact And.intro (sr10.1) (sr10.2) | omega)) ⟨by rw [E.2.2.2]; exact (show 8 + 1 ≤ 2048 by decide), by rw [E.2.2.2]; exact (show 8 + (5 + 11) + 144 ≤ 84000 by decide), by rw [E.2.2.2]; exact (show ce + 1 ≤ 601024 by first | exact rmo_1 hce (by decide) | exact rmo_2 hce (by decide) | omega), by rw [E.2.2.2]; exact (show sl + 6 ≤ 7293034 by first | exact rmo_1 hsl (by decide) | exact rmo_2 hsl (by decide) | omega)⟩ (Nat.le_of_ble_eq_true rfl) (fun vv A s11 hA2 hq => ?_) (fun ee A s11 hA2 hq => ?_))
  rotate_left
  · obtain ⟨Is11, Fs11, e12, hv, hrs11, hps11⟩ := hq; cases hv
  obtain ⟨Is11, Fs11, e12, hv, hrs11, hps11⟩ := hq
  cases hv
  rw [← hA2 0 (by decide)]
  rw [← hA2 179 (by decide)]
  rw [← hA2 517 (by decide)]
  have JRLx_s11 : RLx s11 := RLx_fm Fs11 (by decide) jR
  have JFEQ_s11 : FEQ s11 := FEQ_fm Fs11 (by decide) jFEQ
  have JARJ_s11 : ARJ s11 := ARJ_fm Fs11 ⟨by decide +kernel, by decide +kernel, by decide +kernel, by decide +kernel, by decide +kernel, by decide +kernel, by decide +kernel, by decide +kernel⟩ jARJ
  have JPTJ_s11 : PTJ s11 := PTJ_fm Fs11 (by decide +kernel) jPTJ
  have ws11_0 : iI s11 0 = iI s 0 := fm_iq Fs11 rfl
  have ws11_74 : iI s11 74 = iI s 74 := fm_iq Fs11 rfl
  have ws11_9 : iI s11 9 = iI s 9 := fm_iq Fs11 rfl
  have ws11_90 : iI s11 90 = iI s 90 := fm_iq Fs11 rfl
  have ws11_20 : iI s11 20 = iI s 20 := fm_iq Fs11 rfl
  have ws11_98 : iI s11 98 = iI s 98 := fm_iq Fs11 rfl
  have ws11_12 : iI s11 12 = iI s 12 := fm_iq Fs11 rfl
  have ws11_89 : iI s11 89 = iI s 89 := fm_iq Fs11 rfl
  show WS k 391 [(0, .ref q1), (1, .ref (A 0)), (2, .ref (A 179)), (3, .ref (A 517)), (4, .int (Int32.ofInt i))] [.int (Int32.ofInt e12)] (Wd A dT s11) (ce + 1) (sl + 6)
  refine z_store X (lv' := [(5, .int (Int32.ofInt e12)), (0, .ref q1), (1, .ref (A 0)), (2, .ref (A 179)), (3, .ref (A 517)), (4, .int (Int32.ofInt i))]) rfl (by decide) (fun _ h => h) (z_aload_n X (x := A 179) rfl (List.Mem.tail _ (List.Mem.tail _ (List.Mem.tail _ (List.Mem.head _)))) (z_aload_n X (x := q1) rfl (List.Mem.tail _ (List.Mem.head _)) (z_load X (x := i) rfl (List.Mem.tail _ (List.Mem.tail _ (List.Mem.tail _ (List.Mem.tail _ (List.Mem.tail _ (List.Mem.head _)))))) (z_const X rfl (z_add X rfl (z_sld X S hL rfl (show 0 ≤ (i + 1) ∧ (i + 1) < (L : Int) by first | exact sx_in hi (by decide) | omega) ?_))))))
  have sr13 : rng (sc xs (i + 1)) := sc_rng
  refine z_aload_n X (x := q1) rfl (List.Mem.tail _ (List.Mem.head _)) (z_load X (x := i) rfl (List.Mem.tail _ (List.Mem.tail _ (List.Mem.tail _ (List.Mem.tail _ (List.Mem.tail _ (List.Mem.head _)))))) (z_const X rfl (z_add X rfl (z_sld X S hL rfl (show 0 ≤ (i + 2) ∧ (i + 2) < (L : Int) by first | exact sx_in hi (by decide) | omega) ?_))))
  have sr14 : rng (sc xs (i + 2)) := sc_rng
  refine z_callV X 179 (rm := rmN 217) (As := [.int (Int32.ofInt (sc xs (i + 1))), .int (Int32.ofInt (sc xs (i + 2)))]) (st := []) rfl rfl (by decide) rfl (by rw [E.1, E.2.1, E.2.2.1]; exact k_way2 G Is11 (by first | exact ⟨sr13.1, sr13.2⟩ | omega) (by first | exact ⟨sr14.1, sr14.2⟩ | omega)) ⟨by rw [E.2.2.2]; exact (show 7 + 1 ≤ 2048 from oq_4e6106eb), by rw [E.2.2.2]; exact (show 8 + (3 + 11) + 122 ≤ 84000 from oq_38d194b9), by rw [E.2.2.2]; exact (show (ce + 1) + 0 ≤ 601024 by first | exact oq_398737bb hce | (clear hps11; omega) | omega), by rw [E.2.2.2]; exact (show (sl + 6) + 0 ≤ 7293034 by first | exact oq_140060cc hsl | (clear hps11; omega) | omega)⟩ (Nat.le_of_ble_eq_true rfl) (fun vv s15 hq => ?_) (fun ee s15 hq => ?_)
  rotate_left
  · obtain ⟨Is15, Fs15, e16, hv, hrs15, hps15⟩ := hq; cases hv
  obtain ⟨Is15, Fs15, e16, hv, hrs15, hps15⟩ := hq
  cases hv
  have JRLx_s15 : RLx s15 := RLx_fm Fs15 (by decide) JRLx_s11
  have JFEQ_s15 : FEQ s15 := FEQ_fm Fs15 (by decide) JFEQ_s11
  have JARJ_s15 : ARJ s15 := ARJ_fm Fs15 ⟨by decide +kernel, by decide +kernel, by decide +kernel, by decide +kernel, by decide +kernel, by decide +kernel, by decide +kernel, by decide +kernel⟩ JARJ_s11
  have JPTJ_s15 : PTJ s15 := PTJ_fm Fs15 (by decide +kernel) JPTJ_s11
  have ws15_0 : iI s15 0 = iI s11 0 := fm_iq Fs15 rfl
  have ws15_74 : iI s15 74 = iI s11 74 := fm_iq Fs15 rfl
  have ws15_9 : iI s15 9 = iI s11 9 := fm_iq Fs15 rfl
  have ws15_90 : iI s15 90 = iI s11 90 := fm_iq Fs15 rfl
  have ws15_20 : iI s15 20 = iI s11 20 := fm_iq Fs15 rfl
  have ws15_98 : iI s15 98 = iI s11 98 := fm_iq Fs15 rfl
  have ws15_12 : iI s15 12 = iI s11 12 := fm_iq Fs15 rfl
  have ws15_89 : iI s15 89 = iI s11 89 := fm_iq Fs15 rfl
  have wos15 : iO s15 = iO s11 := fm_o Fs15 (by decide)
  show WS k 409 [(5, .int (Int32.ofInt e12)), (0, .ref q1), (1, .ref (A 0)), (2, .ref (A 179)), (3, .ref (A 517)), (4, .int (Int32.ofInt i))] [.int (Int32.ofInt e16)] (Wd A dT s15) (ce + 1) (sl + 6)
  refine z_store X (lv' := [(6, .int (Int32.ofInt e16)), (5, .int (Int32.ofInt e12)), (0, .ref q1), (1, .ref (A 0)), (2, .ref (A 179)), (3, .ref (A 517)), (4, .int (Int32.ofInt i))]) rfl (by decide) (fun _ h => h) (z_goto X (t := 1894) rfl rfl (w_widen (ce' := ce + 29) (sl' := sl + 222) (by first | exact Nat.le_add_right _ _ | exact Nat.add_le_add_left (by decide) _ | omega) (by first | exact Nat.le_add_right _ _ | exact Nat.add_le_add_left (by decide) _ | omega) ?_))
  exact WS_lv (lv := [(0, .ref q1), (1, .ref (A 0)), (2, .ref (A 179)), (3, .ref (A 517)), (4, .int (Int32.ofInt i))]) (List.forall_mem_cons.mpr ⟨(List.Mem.tail _ (List.Mem.tail _ (List.Mem.head _))), (List.forall_mem_cons.mpr ⟨(List.Mem.tail _ (List.Mem.tail _ (List.Mem.tail _ (List.Mem.head _)))), (List.forall_mem_cons.mpr ⟨(List.Mem.tail _ (List.Mem.tail _ (List.Mem.tail _ (List.Mem.tail _ (List.Mem.head _))))), (List.forall_mem_cons.mpr ⟨(List.Mem.tail _ (List.Mem.tail _ (List.Mem.tail _ (List.Mem.tail _ (List.Mem.tail _ (List.Mem.head _)))))), (List.forall_mem_cons.mpr ⟨(List.Mem.tail _ (List.Mem.tail _ (List.Mem.tail _ (List.Mem.tail _ (List.Mem.tail _ (List.Mem.tail _ (List.Mem.head _))))))), (fun q h => absurd h List.not_mem_nil)⟩)⟩)⟩)⟩)⟩) (hk A _ Is15 JRLx_s15 JFEQ_s15 JARJ_s15 JPTJ_s15 (by first | exact oq_f34933ba ws15_89 ws11_89 p1 b8.1 | omega) (by first | exact oq_d7ce4408 ws15_12 ws11_12 p2 | omega) (by first | exact oq_5bcdc35f ws15_74 ws15_0 ws11_74 ws11_0 p3 | omega) (by first | exact oq_5bcdc35f ws15_90 ws15_9 ws11_90 ws11_9 p4 | omega) (by first | exact oq_5bcdc35f ws15_98 ws15_20 ws11_98 ws11_20 p5 | omega))
theorem lc_5 (G : GX l s0 D tys a0 dT) (GR : RS0 s0) (SF : SF0 s0) (GT : TXs0 s0) (GW : TXw0 s0) {k : kx_T} (X : AX k 350 dT) (E : kL k = l ∧ kS0 k = s0 ∧ kD k = D ∧ kR k = room_1) {q1 L : Nat} {xs : Nat → Int32} (S : SX k q1 L xs) (hL : L ≤ 3072) (I : Bd s) (jR : RLx s) (jFEQ : FEQ s) (jARJ : ARJ s) (jPTJ : PTJ s) (p1 : iI s 89 = 1) (p2 : iI s 12 ≤ 8) (p3 : iI s 0 = iI s 74) (p4 : iI s 9 = iI s 90) (p5 : iI s 20 = iI s 98) {i : Int} (hi : 0 ≤ i ∧ i + 6 ≤ (L : Int)) {ce sl : Nat} (hce : ce + 29 ≤ 601024) (hsl : sl + 222 ≤ 7293034) (hk : ∀ (A : Nat → Nat) (t : PS), Bd t → RLx t → FEQ t → ARJ t → PTJ t → iI t 89 = 1 → iI t 12 ≤ 8 → iI t 0 = iI t 74 → iI t 9 = iI t 90 → iI t 20 = iI t 98 → WS k 1894 [(0, .ref q1), (1, .ref (A 0)), (2, .ref (A 179)), (3, .ref (A 517)), (4, .int (Int32.ofInt i))] [] (Wd A dT t) (ce + 29) (sl + 222)) : WS k 414 [(0, .ref q1), (1, .ref (A 0)), (2, .ref (A 179)), (3, .ref (A 517)), (4, .int (Int32.ofInt i))] [] (Wd A dT s) ce sl := by
  have F : Fm [73] [8, 11, 12, 13, 14, 190, 191, 192, 193, 194, 195, 196, 197, 198, 199, 200, 201] s s := fm_rf _ _ s
  have b1 := bi_0 I
  have b2 := bi_74 I
  have b3 := bi_9 I
  have b4 := bi_90 I
  have b5 := bi_20 I
  have b6 := bi_98 I
  have b7 := bi_12 I
  have b8 := bi_89 I
  refine z_aload_n X (x := A 0) rfl (List.Mem.tail _ (List.Mem.head _)) (z_aload_n X (x := q1) rfl (List.Mem.head _) (z_load X (x := i) rfl (List.Mem.tail _ (List.Mem.tail _ (List.Mem.tail _ (List.Mem.tail _ (List.Mem.head _))))) (z_const X rfl (z_add X rfl (z_sld X S hL rfl (show 0 ≤ (i + 1) ∧ (i + 1) < (L : Int) by first | exact sx_in hi (by decide) | omega) ?_)))))
  have sr9 : rng (sc xs (i + 1)) := sc_rng
  refine z_aload_n X (x := q1) rfl (List.Mem.head _) (z_load X (x := i) rfl (List.Mem.tail _ (List.Mem.tail _ (List.Mem.tail _ (List.Mem.tail _ (List.Mem.head _))))) (z_const X rfl (z_add X rfl (z_sld X S hL rfl (show 0 ≤ (i + 2) ∧ (i + 2) < (L : Int) by first | exact sx_in hi (by decide) | omega) ?_))))
  have sr10 : rng (sc xs (i + 2)) := sc_rng
  refine z_aload_n X (x := q1) rfl (List.Mem.head _) (z_load X (x := i) rfl (List.Mem.tail _ (List.Mem.tail _ (List.Mem.tail _ (List.Mem.tail _ (List.Mem.head _))))) (z_const X rfl (z_add X rfl (z_sld X S hL rfl (show 0 ≤ (i + 3) ∧ (i + 3) < (L : Int) by first | exact sx_in hi (by decide) | omega) ?_))))
  have sr11 : rng (sc xs (i + 3)) := sc_rng
  refine z_aload_n X (x := q1) rfl (List.Mem.head _) (z_load X (x := i) rfl (List.Mem.tail _ (List.Mem.tail _ (List.Mem.tail _ (List.Mem.tail _ (List.Mem.head _))))) (z_const X rfl (z_add X rfl (z_sld X S hL rfl (show 0 ≤ (i + 4) ∧ (i + 4) < (L : Int) by first | exact sx_in hi (by decide) | omega) ?_))))
  have sr12 : rng (sc xs (i + 4)) := sc_rng
  refine z_callL X (rm := rmN 317) (As := [.ref (A 0), .int (Int32.ofInt (sc xs (i + 1))), .int (Int32.ofInt (sc xs (i + 2))), .int (Int32.ofInt (sc xs (i + 3))), .int (Int32.ofInt (sc xs (i + 4)))]) (st := []) rfl (by decide) rfl (by rw [E.1, E.2.1, E.2.2.1]; exact lw_flow5 G I jARJ.2.2.1.1 jARJ.2.2.2.2.1 (by first | exact And.intro (sr9.1) (sr9.2) | omega) (by first | exact And.intro (sr10.1) (sr10.2) | omega) (by first | exact And.intro (sr11.1) (sr11.2) | omega) (by first | exact And.intro (sr12.1) (sr12.2) | omega)) ⟨by rw [E.2.2.2]; exact (show 11 + 1 ≤ 2048 by decide), by rw [E.2.2.2]; exact (show 8 + (6 + 11) + 219 ≤ 84000 by decide), by rw [E.2.2.2]; exact (show ce + 5 ≤ 601024 by first | exact rmo_1 hce (by decide) | exact rmo_2 hce (by decide) | omega), by rw [E.2.2.2]; exact (show sl + 30 ≤ 7293034 by first | exact rmo_1 hsl (by decide) | exact rmo_2 hsl (by decide) | omega)⟩ (Nat.le_of_ble_eq_true rfl) (fun vv A s13 hA2 hq => ?_) (fun ee A s13 hA2 hq => ?_)
  rotate_left
  · obtain ⟨Is13, Fs13, JTWJ_s13, e14, hv, hrs13, hps13⟩ := hq; cases hv
  obtain ⟨Is13, Fs13, JTWJ_s13, e14, hv, hrs13, hps13⟩ := hq
  cases hv
  rw [← hA2 0 (by decide)]
  rw [← hA2 179 (by decide)]
  rw [← hA2 517 (by decide)]
  have JRLx_s13 : RLx s13 := RLx_fm Fs13 (by decide) jR
  have JFEQ_s13 : FEQ s13 := FEQ_fm Fs13 (by decide) jFEQ
  have JPTJ_s13 : PTJ s13 := PTJ_fm Fs13 (by decide +kernel) jPTJ
  have JWQJ_s13 : WQJ s13 := WQJ_fm Fs13 (by decide +kernel) jARJ.1
  have JLIJ_s13 : LIJ s13 := LIJ_fm Fs13 (by decide +kernel) jARJ.2.1
  have JAIR_s13 : AIR s13 := AIR_fm Fs13 (by decide +kernel) jARJ.2.2.2.2.2.1
  have JCPL_s13 : CPL s13 := CPL_fm Fs13 (by decide +kernel) jARJ.2.2.2.2.2.2.1
  have JRLJ_s13 : RLJ s13 := RLJ_fm Fs13 (by decide +kernel) jARJ.2.2.2.2.2.2.2
  have ws13_0 : iI s13 0 = iI s 0 := fm_iq Fs13 rfl
  have ws13_74 : iI s13 74 = iI s 74 := fm_iq Fs13 rfl
  have ws13_9 : iI s13 9 = iI s 9 := fm_iq Fs13 rfl
  have ws13_90 : iI s13 90 = iI s 90 := fm_iq Fs13 rfl
  have ws13_20 : iI s13 20 = iI s 20 := fm_iq Fs13 rfl
  have ws13_98 : iI s13 98 = iI s 98 := fm_iq Fs13 rfl
  have ws13_12 : iI s13 12 = iI s 12 := fm_iq Fs13 rfl
  have ws13_89 : iI s13 89 = iI s 89 := fm_iq Fs13 rfl
  have wos13 : iO s13 = iO s := fm_o Fs13 (by decide)
  show WS k 442 [(0, .ref q1), (1, .ref (A 0)), (2, .ref (A 179)), (3, .ref (A 517)), (4, .int (Int32.ofInt i))] [.int (Int32.ofInt e14)] (Wd A dT s13) (ce + 5) (sl + 30)
  refine z_store X (lv' := [(5, .int (Int32.ofInt e14)), (0, .ref q1), (1, .ref (A 0)), (2, .ref (A 179)), (3, .ref (A 517)), (4, .int (Int32.ofInt i))]) rfl (by decide) (fun _ h => h) (z_aload_n X (x := A 179) rfl (List.Mem.tail _ (List.Mem.tail _ (List.Mem.tail _ (List.Mem.head _)))) (z_aload_n X (x := q1) rfl (List.Mem.tail _ (List.Mem.head _)) (z_load X (x := i) rfl (List.Mem.tail _ (List.Mem.tail _ (List.Mem.tail _ (List.Mem.tail _ (List.Mem.tail _ (List.Mem.head _)))))) (z_const X rfl (z_add X rfl (z_sld X S hL rfl (show 0 ≤ (i + 1) ∧ (i + 1) < (L : Int) by first | exact sx_in hi (by decide) | omega) ?_))))))
  have sr15 : rng (sc xs (i + 1)) := sc_rng
  refine z_aload_n X (x := q1) rfl (List.Mem.tail _ (List.Mem.head _)) (z_load X (x := i) rfl (List.Mem.tail _ (List.Mem.tail _ (List.Mem.tail _ (List.Mem.tail _ (List.Mem.tail _ (List.Mem.head _)))))) (z_const X rfl (z_add X rfl (z_sld X S hL rfl (show 0 ≤ (i + 2) ∧ (i + 2) < (L : Int) by first | exact sx_in hi (by decide) | omega) ?_))))
  have sr16 : rng (sc xs (i + 2)) := sc_rng
  refine z_aload_n X (x := q1) rfl (List.Mem.tail _ (List.Mem.head _)) (z_load X (x := i) rfl (List.Mem.tail _ (List.Mem.tail _ (List.Mem.tail _ (List.Mem.tail _ (List.Mem.tail _ (List.Mem.head _)))))) (z_const X rfl (z_add X rfl (z_sld X S hL rfl (show 0 ≤ (i + 3) ∧ (i + 3) < (L : Int) by first | exact sx_in hi (by decide) | omega) ?_))))
  have sr17 : rng (sc xs (i + 3)) := sc_rng
  refine z_aload_n X (x := q1) rfl (List.Mem.tail _ (List.Mem.head _)) (z_load X (x := i) rfl (List.Mem.tail _ (List.Mem.tail _ (List.Mem.tail _ (List.Mem.tail _ (List.Mem.tail _ (List.Mem.head _)))))) (z_const X rfl (z_add X rfl (z_sld X S hL rfl (show 0 ≤ (i + 4) ∧ (i + 4) < (L : Int) by first | exact sx_in hi (by decide) | omega) ?_))))
  have sr18 : rng (sc xs (i + 4)) := sc_rng
  refine z_callV X 179 (rm := rmN 218) (As := [.int (Int32.ofInt (sc xs (i + 1))), .int (Int32.ofInt (sc xs (i + 2))), .int (Int32.ofInt (sc xs (i + 3))), .int (Int32.ofInt (sc xs (i + 4)))]) (st := []) rfl rfl (by decide) rfl (by rw [E.1, E.2.1, E.2.2.1]; exact k_flow3 G Is13 (by first | exact ⟨sr15.1, sr15.2⟩ | omega) (by first | exact ⟨sr16.1, sr16.2⟩ | omega) (by first | exact ⟨sr17.1, sr17.2⟩ | omega) (by first | exact ⟨sr18.1, sr18.2⟩ | omega)) ⟨by rw [E.2.2.2]; exact (show 7 + 1 ≤ 2048 from oq_4e6106eb), by rw [E.2.2.2]; exact (show 8 + (6 + 11) + 122 ≤ 84000 from oq_380e4f97), by rw [E.2.2.2]; exact (show (ce + 5) + 0 ≤ 601024 by first | exact oq_b9e6cbf4 hce | (clear hps13; omega) | omega), by rw [E.2.2.2]; exact (show (sl + 30) + 0 ≤ 7293034 by first | exact oq_ab126e84 hsl | (clear hps13; omega) | omega)⟩ (Nat.le_of_ble_eq_true rfl) (fun vv s19 hq => ?_) (fun ee s19 hq => ?_)
  rotate_left
  · obtain ⟨Is19, Fs19, hv, hps19⟩ := hq; cases hv
  obtain ⟨Is19, Fs19, hv, hps19⟩ := hq
  cases hv
  have JRLx_s19 : RLx s19 := RLx_fm Fs19 (by decide) JRLx_s13
  have JFEQ_s19 : FEQ s19 := FEQ_fm Fs19 (by decide) JFEQ_s13
  have JPTJ_s19 : PTJ s19 := PTJ_fm Fs19 (by decide +kernel) JPTJ_s13
  have JWQJ_s19 : WQJ s19 := WQJ_fm Fs19 (by decide +kernel) JWQJ_s13
  have JLIJ_s19 : LIJ s19 := LIJ_fm Fs19 (by decide +kernel) JLIJ_s13
  have JAIR_s19 : AIR s19 := AIR_fm Fs19 (by decide +kernel) JAIR_s13
  have JCPL_s19 : CPL s19 := CPL_fm Fs19 (by decide +kernel) JCPL_s13
  have JRLJ_s19 : RLJ s19 := RLJ_fm Fs19 (by decide +kernel) JRLJ_s13
  have JTWJ_s19 : TWJ s19 := TWJ_fm Fs19 (by decide +kernel) JTWJ_s13
  have ws19_0 : iI s19 0 = iI s13 0 := fm_iq Fs19 rfl
  have ws19_74 : iI s19 74 = iI s13 74 := fm_iq Fs19 rfl
  have ws19_9 : iI s19 9 = iI s13 9 := fm_iq Fs19 rfl
  have ws19_90 : iI s19 90 = iI s13 90 := fm_iq Fs19 rfl
  have ws19_20 : iI s19 20 = iI s13 20 := fm_iq Fs19 rfl
  have ws19_98 : iI s19 98 = iI s13 98 := fm_iq Fs19 rfl
  have ws19_12 : iI s19 12 = iI s13 12 := fm_iq Fs19 rfl
  have ws19_89 : iI s19 89 = iI s13 89 := fm_iq Fs19 rfl
  have wos19 : iO s19 = iO s13 := fm_o Fs19 (by decide)
  show WS k 472 [(5, .int (Int32.ofInt e14)), (0, .ref q1), (1, .ref (A 0)), (2, .ref (A 179)), (3, .ref (A 517)), (4, .int (Int32.ofInt i))] [] (Wd A dT s19) (ce + 5) (sl + 30)
  rcases hps13 with cc | cc | cc
  ·
    rcases hps19 with mm | mm | mm
    ·
      have jb21 : ARJ s19 := ⟨JWQJ_s19, JLIJ_s19, mqj_flow jARJ.2.2.1 cc.2.2.2.2.2.2.2.2.2.2.1 cc.2.2.2.2.2.2.2.2.2.2.2.1 cc.2.2.2.2.2.2.2.2.2.2.2.2.1 cc.2.2.2.2.2.2.2.2.2.2.2.2.2 (smr_fm Fs13 (by decide +kernel)) (sam_fm Fs13 (by decide)) (sam_fm Fs13 (by decide)) mm.2.2.2.2.2.2.2.2.2.2 (sa4_fm Fs19 (by decide +kernel)) (sam_fm Fs19 (by decide)) (sam_fm Fs19 (by decide)) rfl rfl rfl rfl, nzj_st (nzj_fl jARJ.2.2.2.1 cc.2.2.2.2.2.2.2.2.2.2.2.1 (by first | exact cc.2.2.1 | (clear hps19 hps13; omega) | (clear hps13; omega) | omega) (by first | exact ws13_9 | (clear hps19 hps13; omega) | (clear hps13; omega) | omega)) (by first | exact oq_fa711800 ws19_9 | (clear hps19 hps13; omega) | (clear hps13; omega) | omega) (sam_fm Fs19 (by decide +kernel)), JTWJ_s19, JAIR_s19, JCPL_s19, JRLJ_s19⟩
      refine z_goto X (t := 1894) rfl rfl (w_widen (ce' := ce + 29) (sl' := sl + 222) (by first | exact Nat.le_add_right _ _ | exact Nat.add_le_add_left (by decide) _ | omega) (by first | exact Nat.le_add_right _ _ | exact Nat.add_le_add_left (by decide) _ | omega) ?_)
      exact WS_lv (lv := [(0, .ref q1), (1, .ref (A 0)), (2, .ref (A 179)), (3, .ref (A 517)), (4, .int (Int32.ofInt i))]) (List.forall_mem_cons.mpr ⟨(List.Mem.tail _ (List.Mem.head _)), (List.forall_mem_cons.mpr ⟨(List.Mem.tail _ (List.Mem.tail _ (List.Mem.head _))), (List.forall_mem_cons.mpr ⟨(List.Mem.tail _ (List.Mem.tail _ (List.Mem.tail _ (List.Mem.head _)))), (List.forall_mem_cons.mpr ⟨(List.Mem.tail _ (List.Mem.tail _ (List.Mem.tail _ (List.Mem.tail _ (List.Mem.head _))))), (List.forall_mem_cons.mpr ⟨(List.Mem.tail _ (List.Mem.tail _ (List.Mem.tail _ (List.Mem.tail _ (List.Mem.tail _ (List.Mem.head _)))))), (fun q h => absurd h List.not_mem_nil)⟩)⟩)⟩)⟩)⟩) (hk A _ Is19 JRLx_s19 JFEQ_s19 jb21 JPTJ_s19 (by first | exact oq_f34933ba ws19_89 ws13_89 p1 b8.1 | omega) (by first | exact oq_d7ce4408 ws19_12 ws13_12 p2 | omega) (by first | exact oq_5bcdc35f ws19_74 ws19_0 ws13_74 ws13_0 p3 | omega) (by first | exact oq_5bcdc35f ws19_90 ws19_9 ws13_90 ws13_9 p4 | omega) (by first | exact oq_5bcdc35f ws19_98 ws19_20 ws13_98 ws13_20 p5 | omega))
    ·
      exfalso
      omega
    ·
      exfalso
      omega
  ·
    rcases hps19 with mm | mm | mm
    ·
      exfalso
      omega
    ·
      have jb22 : ARJ s19 := ⟨JWQJ_s19, JLIJ_s19, mqj_sam jARJ.2.2.1 (sa4_ts cc.2.2 (sa4_fm Fs19 (by decide +kernel))) (smr_ts (smr_fm Fs13 (by decide +kernel)) mm.2.2) (sam_ts (sam_fm Fs13 (by decide)) (sam_fm Fs19 (by decide))) (sam_ts (sam_fm Fs13 (by decide)) (sam_fm Fs19 (by decide))), nzj_st jARJ.2.2.2.1 (by first | exact oq_9bba7529 ws19_9 ws13_9 | (clear hps19 hps13; omega) | (clear hps13; omega) | omega) (sam_ts cc.2.2.1 (sam_fm Fs19 (by decide +kernel))), JTWJ_s19, JAIR_s19, JCPL_s19, JRLJ_s19⟩
      refine z_goto X (t := 1894) rfl rfl (w_widen (ce' := ce + 29) (sl' := sl + 222) (by first | exact Nat.le_add_right _ _ | exact Nat.add_le_add_left (by decide) _ | omega) (by first | exact Nat.le_add_right _ _ | exact Nat.add_le_add_left (by decide) _ | omega) ?_)
      exact WS_lv (lv := [(0, .ref q1), (1, .ref (A 0)), (2, .ref (A 179)), (3, .ref (A 517)), (4, .int (Int32.ofInt i))]) (List.forall_mem_cons.mpr ⟨(List.Mem.tail _ (List.Mem.head _)), (List.forall_mem_cons.mpr ⟨(List.Mem.tail _ (List.Mem.tail _ (List.Mem.head _))), (List.forall_mem_cons.mpr ⟨(List.Mem.tail _ (List.Mem.tail _ (List.Mem.tail _ (List.Mem.head _)))), (List.forall_mem_cons.mpr ⟨(List.Mem.tail _ (List.Mem.tail _ (List.Mem.tail _ (List.Mem.tail _ (List.Mem.head _))))), (List.forall_mem_cons.mpr ⟨(List.Mem.tail _ (List.Mem.tail _ (List.Mem.tail _ (List.Mem.tail _ (List.Mem.tail _ (List.Mem.head _)))))), (fun q h => absurd h List.not_mem_nil)⟩)⟩)⟩)⟩)⟩) (hk A _ Is19 JRLx_s19 JFEQ_s19 jb22 JPTJ_s19 (by first | exact oq_f34933ba ws19_89 ws13_89 p1 b8.1 | omega) (by first | exact oq_d7ce4408 ws19_12 ws13_12 p2 | omega) (by first | exact oq_5bcdc35f ws19_74 ws19_0 ws13_74 ws13_0 p3 | omega) (by first | exact oq_5bcdc35f ws19_90 ws19_9 ws13_90 ws13_9 p4 | omega) (by first | exact oq_5bcdc35f ws19_98 ws19_20 ws13_98 ws13_20 p5 | omega))
    ·
      exfalso
      omega
  ·
    rcases hps19 with mm | mm | mm
    ·
      exfalso
      omega
    ·
      exfalso
      omega
    ·
      have jb23 : ARJ s19 := ⟨JWQJ_s19, JLIJ_s19, mqj_sam jARJ.2.2.1 (sa4_ts cc.2.2.2.2 (sa4_fm Fs19 (by decide +kernel))) (smr_ts (smr_fm Fs13 (by decide +kernel)) mm.2.2.2.2) (sam_ts (sam_fm Fs13 (by decide)) (sam_fm Fs19 (by decide))) (sam_ts (sam_fm Fs13 (by decide)) (sam_fm Fs19 (by decide))), nzj_st jARJ.2.2.2.1 (by first | exact oq_9bba7529 ws19_9 ws13_9 | (clear hps19 hps13; omega) | (clear hps13; omega) | omega) (sam_ts cc.2.2.2.2.1 (sam_fm Fs19 (by decide +kernel))), JTWJ_s19, JAIR_s19, JCPL_s19, JRLJ_s19⟩
      refine z_goto X (t := 1894) rfl rfl (w_widen (ce' := ce + 29) (sl' := sl + 222) (by first | exact Nat.le_add_right _ _ | exact Nat.add_le_add_left (by decide) _ | omega) (by first | exact Nat.le_add_right _ _ | exact Nat.add_le_add_left (by decide) _ | omega) ?_)
      exact WS_lv (lv := [(0, .ref q1), (1, .ref (A 0)), (2, .ref (A 179)), (3, .ref (A 517)), (4, .int (Int32.ofInt i))]) (List.forall_mem_cons.mpr ⟨(List.Mem.tail _ (List.Mem.head _)), (List.forall_mem_cons.mpr ⟨(List.Mem.tail _ (List.Mem.tail _ (List.Mem.head _))), (List.forall_mem_cons.mpr ⟨(List.Mem.tail _ (List.Mem.tail _ (List.Mem.tail _ (List.Mem.head _)))), (List.forall_mem_cons.mpr ⟨(List.Mem.tail _ (List.Mem.tail _ (List.Mem.tail _ (List.Mem.tail _ (List.Mem.head _))))), (List.forall_mem_cons.mpr ⟨(List.Mem.tail _ (List.Mem.tail _ (List.Mem.tail _ (List.Mem.tail _ (List.Mem.tail _ (List.Mem.head _)))))), (fun q h => absurd h List.not_mem_nil)⟩)⟩)⟩)⟩)⟩) (hk A _ Is19 JRLx_s19 JFEQ_s19 jb23 JPTJ_s19 (by first | exact oq_f34933ba ws19_89 ws13_89 p1 b8.1 | omega) (by first | exact oq_d7ce4408 ws19_12 ws13_12 p2 | omega) (by first | exact oq_5bcdc35f ws19_74 ws19_0 ws13_74 ws13_0 p3 | omega) (by first | exact oq_5bcdc35f ws19_90 ws19_9 ws13_90 ws13_9 p4 | omega) (by first | exact oq_5bcdc35f ws19_98 ws19_20 ws13_98 ws13_20 p5 | omega))
theorem lc_6 (G : GX l s0 D tys a0 dT) (GR : RS0 s0) (SF : SF0 s0) (GT : TXs0 s0) (GW : TXw0 s0) {k : kx_T} (X : AX k 350 dT) (E : kL k = l ∧ kS0 k = s0 ∧ kD k = D ∧ kR k = room_1) {q1 L : Nat} {xs : Nat → Int32} (S : SX k q1 L xs) (hL : L ≤ 3072) (I : Bd s) (jR : RLx s) (jFEQ : FEQ s) (jARJ : ARJ s) (jPTJ : PTJ s) (p1 : iI s 89 = 1) (p2 : iI s 12 ≤ 8) (p3 : iI s 0 = iI s 74) (p4 : iI s 9 = iI s 90) (p5 : iI s 20 = iI s 98) {i : Int} (hi : 0 ≤ i ∧ i + 6 ≤ (L : Int)) {ce sl : Nat} (hce : ce + 29 ≤ 601024) (hsl : sl + 222 ≤ 7293034) (hk : ∀ (A : Nat → Nat) (t : PS), Bd t → RLx t → FEQ t → ARJ t → PTJ t → iI t 89 = 1 → iI t 12 ≤ 8 → iI t 0 = iI t 74 → iI t 9 = iI t 90 → iI t 20 = iI t 98 → WS k 1894 [(0, .ref q1), (1, .ref (A 0)), (2, .ref (A 179)), (3, .ref (A 517)), (4, .int (Int32.ofInt i))] [] (Wd A dT t) (ce + 29) (sl + 222)) : WS k 475 [(0, .ref q1), (1, .ref (A 0)), (2, .ref (A 179)), (3, .ref (A 517)), (4, .int (Int32.ofInt i))] [] (Wd A dT s) ce sl := by
  have F : Fm [73] [9, 10, 11, 12, 13, 14, 163, 164] s s := fm_rf _ _ s
  have b1 := bi_0 I
  have b2 := bi_74 I
  have b3 := bi_9 I
  have b4 := bi_90 I
  have b5 := bi_20 I
  have b6 := bi_98 I
  have b7 := bi_12 I
  have b8 := bi_89 I
  refine z_aload_n X (x := A 0) rfl (List.Mem.tail _ (List.Mem.head _)) (z_aload_n X (x := q1) rfl (List.Mem.head _) (z_load X (x := i) rfl (List.Mem.tail _ (List.Mem.tail _ (List.Mem.tail _ (List.Mem.tail _ (List.Mem.head _))))) (z_const X rfl (z_add X rfl (z_sld X S hL rfl (show 0 ≤ (i + 1) ∧ (i + 1) < (L : Int) by first | exact sx_in hi (by decide) | omega) ?_)))))
  have sr9 : rng (sc xs (i + 1)) := sc_rng
  refine z_aload_n X (x := q1) rfl (List.Mem.head _) (z_load X (x := i) rfl (List.Mem.tail _ (List.Mem.tail _ (List.Mem.tail _ (List.Mem.tail _ (List.Mem.head _))))) (z_const X rfl (z_add X rfl (z_sld X S hL rfl (show 0 ≤ (i + 2) ∧ (i + 2) < (L : Int) by first | exact sx_in hi (by decide) | omega) ?_))))
  have sr10 : rng (sc xs (i + 2)) := sc_rng
  refine z_aload_n X (x := q1) rfl (List.Mem.head _) (z_load X (x := i) rfl (List.Mem.tail _ (List.Mem.tail _ (List.Mem.tail _ (List.Mem.tail _ (List.Mem.head _))))) (z_const X rfl (z_add X rfl (z_sld X S hL rfl (show 0 ≤ (i + 3) ∧ (i + 3) < (L : Int) by first | exact sx_in hi (by decide) | omega) ?_))))
  have sr11 : rng (sc xs (i + 3)) := sc_rng
  refine z_callL X (rm := rmN 318) (As := [.ref (A 0), .int (Int32.ofInt (sc xs (i + 1))), .int (Int32.ofInt (sc xs (i + 2))), .int (Int32.ofInt (sc xs (i + 3)))]) (st := []) rfl (by decide) rfl (by rw [E.1, E.2.1, E.2.2.1]; exact lw_span5 G I jARJ.2.2.1.1 jARJ.2.2.2.2.1 (by first | exact And.intro (sr9.1) (sr9.2) | omega) (by first | exact And.intro (sr10.1) (sr10.2) | omega) (by first | exact And.intro (sr11.1) (sr11.2) | omega)) ⟨by rw [E.2.2.2]; exact (show 11 + 1 ≤ 2048 by decide), by rw [E.2.2.2]; exact (show 8 + (5 + 11) + 216 ≤ 84000 by decide), by rw [E.2.2.2]; exact (show ce + 3 ≤ 601024 by first | exact rmo_1 hce (by decide) | exact rmo_2 hce (by decide) | omega), by rw [E.2.2.2]; exact (show sl + 18 ≤ 7293034 by first | exact rmo_1 hsl (by decide) | exact rmo_2 hsl (by decide) | omega)⟩ (Nat.le_of_ble_eq_true rfl) (fun vv A s12 hA2 hq => ?_) (fun ee A s12 hA2 hq => ?_)
  rotate_left
  · obtain ⟨Is12, Fs12, JTWJ_s12, e13, hv, hrs12, hps12⟩ := hq; cases hv
  obtain ⟨Is12, Fs12, JTWJ_s12, e13, hv, hrs12, hps12⟩ := hq
  cases hv
  rw [← hA2 0 (by decide)]
  rw [← hA2 179 (by decide)]
  rw [← hA2 517 (by decide)]
  have JRLx_s12 : RLx s12 := RLx_fm Fs12 (by decide) jR
  have JFEQ_s12 : FEQ s12 := FEQ_fm Fs12 (by decide) jFEQ
  have JPTJ_s12 : PTJ s12 := PTJ_fm Fs12 (by decide +kernel) jPTJ
  have JWQJ_s12 : WQJ s12 := WQJ_fm Fs12 (by decide +kernel) jARJ.1
  have JLIJ_s12 : LIJ s12 := LIJ_fm Fs12 (by decide +kernel) jARJ.2.1
  have JNZJ_s12 : NZJ s12 := NZJ_fm Fs12 (by decide) jARJ.2.2.2.1
  have JAIR_s12 : AIR s12 := AIR_fm Fs12 (by decide +kernel) jARJ.2.2.2.2.2.1
  have JCPL_s12 : CPL s12 := CPL_fm Fs12 (by decide +kernel) jARJ.2.2.2.2.2.2.1
  have JRLJ_s12 : RLJ s12 := RLJ_fm Fs12 (by decide +kernel) jARJ.2.2.2.2.2.2.2
  have ws12_0 : iI s12 0 = iI s 0 := fm_iq Fs12 rfl
  have ws12_74 : iI s12 74 = iI s 74 := fm_iq Fs12 rfl
  have ws12_9 : iI s12 9 = iI s 9 := fm_iq Fs12 rfl
  have ws12_90 : iI s12 90 = iI s 90 := fm_iq Fs12 rfl
  have ws12_20 : iI s12 20 = iI s 20 := fm_iq Fs12 rfl
  have ws12_98 : iI s12 98 = iI s 98 := fm_iq Fs12 rfl
  have ws12_12 : iI s12 12 = iI s 12 := fm_iq Fs12 rfl
  have ws12_89 : iI s12 89 = iI s 89 := fm_iq Fs12 rfl
  have wos12 : iO s12 = iO s := fm_o Fs12 (by decide)
  show WS k 497 [(0, .ref q1), (1, .ref (A 0)), (2, .ref (A 179)), (3, .ref (A 517)), (4, .int (Int32.ofInt i))] [.int (Int32.ofInt e13)] (Wd A dT s12) (ce + 3) (sl + 18)
  refine z_store X (lv' := [(5, .int (Int32.ofInt e13)), (0, .ref q1), (1, .ref (A 0)), (2, .ref (A 179)), (3, .ref (A 517)), (4, .int (Int32.ofInt i))]) rfl (by decide) (fun _ h => h) (z_aload_n X (x := A 179) rfl (List.Mem.tail _ (List.Mem.tail _ (List.Mem.tail _ (List.Mem.head _)))) (z_aload_n X (x := q1) rfl (List.Mem.tail _ (List.Mem.head _)) (z_load X (x := i) rfl (List.Mem.tail _ (List.Mem.tail _ (List.Mem.tail _ (List.Mem.tail _ (List.Mem.tail _ (List.Mem.head _)))))) (z_const X rfl (z_add X rfl (z_sld X S hL rfl (show 0 ≤ (i + 1) ∧ (i + 1) < (L : Int) by first | exact sx_in hi (by decide) | omega) ?_))))))
  have sr14 : rng (sc xs (i + 1)) := sc_rng
  refine z_aload_n X (x := q1) rfl (List.Mem.tail _ (List.Mem.head _)) (z_load X (x := i) rfl (List.Mem.tail _ (List.Mem.tail _ (List.Mem.tail _ (List.Mem.tail _ (List.Mem.tail _ (List.Mem.head _)))))) (z_const X rfl (z_add X rfl (z_sld X S hL rfl (show 0 ≤ (i + 2) ∧ (i + 2) < (L : Int) by first | exact sx_in hi (by decide) | omega) ?_))))
  have sr15 : rng (sc xs (i + 2)) := sc_rng
  refine z_aload_n X (x := q1) rfl (List.Mem.tail _ (List.Mem.head _)) (z_load X (x := i) rfl (List.Mem.tail _ (List.Mem.tail _ (List.Mem.tail _ (List.Mem.tail _ (List.Mem.tail _ (List.Mem.head _)))))) (z_const X rfl (z_add X rfl (z_sld X S hL rfl (show 0 ≤ (i + 3) ∧ (i + 3) < (L : Int) by first | exact sx_in hi (by decide) | omega) ?_))))
  have sr16 : rng (sc xs (i + 3)) := sc_rng
  refine z_callV X 179 (rm := rmN 219) (As := [.int (Int32.ofInt (sc xs (i + 1))), .int (Int32.ofInt (sc xs (i + 2))), .int (Int32.ofInt (sc xs (i + 3)))]) (st := []) rfl rfl (by decide) rfl (by rw [E.1, E.2.1, E.2.2.1]; exact k_span3 G Is12 (by first | exact ⟨sr14.1, sr14.2⟩ | omega) (by first | exact ⟨sr15.1, sr15.2⟩ | omega) (by first | exact ⟨sr16.1, sr16.2⟩ | omega)) ⟨by rw [E.2.2.2]; exact (show 7 + 1 ≤ 2048 from oq_4e6106eb), by rw [E.2.2.2]; exact (show 8 + (4 + 11) + 122 ≤ 84000 from oq_ebbf79c1), by rw [E.2.2.2]; exact (show (ce + 3) + 0 ≤ 601024 by first | exact oq_0a958bad hce | (clear hps12; omega) | omega), by rw [E.2.2.2]; exact (show (sl + 18) + 0 ≤ 7293034 by first | exact oq_21dd3b4d hsl | (clear hps12; omega) | omega)⟩ (Nat.le_of_ble_eq_true rfl) (fun vv s17 hq => ?_) (fun ee s17 hq => ?_)
  rotate_left
  · obtain ⟨Is17, Fs17, hv, hps17⟩ := hq; cases hv
  obtain ⟨Is17, Fs17, hv, hps17⟩ := hq
  cases hv
  have JRLx_s17 : RLx s17 := RLx_fm Fs17 (by decide) JRLx_s12
  have JFEQ_s17 : FEQ s17 := FEQ_fm Fs17 (by decide) JFEQ_s12
  have JPTJ_s17 : PTJ s17 := PTJ_fm Fs17 (by decide +kernel) JPTJ_s12
  have JWQJ_s17 : WQJ s17 := WQJ_fm Fs17 (by decide +kernel) JWQJ_s12
  have JLIJ_s17 : LIJ s17 := LIJ_fm Fs17 (by decide +kernel) JLIJ_s12
  have JNZJ_s17 : NZJ s17 := NZJ_fm Fs17 (by decide) JNZJ_s12
  have JAIR_s17 : AIR s17 := AIR_fm Fs17 (by decide +kernel) JAIR_s12
  have JCPL_s17 : CPL s17 := CPL_fm Fs17 (by decide +kernel) JCPL_s12
  have JRLJ_s17 : RLJ s17 := RLJ_fm Fs17 (by decide +kernel) JRLJ_s12
  have JTWJ_s17 : TWJ s17 := TWJ_fm Fs17 (by decide +kernel) JTWJ_s12
  have ws17_0 : iI s17 0 = iI s12 0 := fm_iq Fs17 rfl
  have ws17_74 : iI s17 74 = iI s12 74 := fm_iq Fs17 rfl
  have ws17_9 : iI s17 9 = iI s12 9 := fm_iq Fs17 rfl
  have ws17_90 : iI s17 90 = iI s12 90 := fm_iq Fs17 rfl
  have ws17_20 : iI s17 20 = iI s12 20 := fm_iq Fs17 rfl
  have ws17_98 : iI s17 98 = iI s12 98 := fm_iq Fs17 rfl
  have ws17_12 : iI s17 12 = iI s12 12 := fm_iq Fs17 rfl
  have ws17_89 : iI s17 89 = iI s12 89 := fm_iq Fs17 rfl
  have wos17 : iO s17 = iO s12 := fm_o Fs17 (by decide)
  show WS k 521 [(5, .int (Int32.ofInt e13)), (0, .ref q1), (1, .ref (A 0)), (2, .ref (A 179)), (3, .ref (A 517)), (4, .int (Int32.ofInt i))] [] (Wd A dT s17) (ce + 3) (sl + 18)
  rcases hps12 with cc | cc | cc
  ·
    rcases hps17 with mm | mm | mm
    ·
      have jb19 : ARJ s17 := ⟨JWQJ_s17, JLIJ_s17, mqj_span jARJ.2.2.1 cc.2.2.2.2.2.2.2.1 cc.2.2.2.2.2.2.2.2.2.2 cc.2.2.2.2.2.2.2.2.1 cc.2.2.2.2.2.2.2.2.2.1 (smr_fm Fs12 (by decide +kernel)) (sam_fm Fs12 (by decide)) (sam_fm Fs12 (by decide)) mm.2.2.2.2.2.2.2.1 mm.2.2.2.2.2.2.2.2 (sa4_fm Fs17 (by decide +kernel)) (smr_fm Fs17 (by decide +kernel)), JNZJ_s17, JTWJ_s17, JAIR_s17, JCPL_s17, JRLJ_s17⟩
      refine z_goto X (t := 1894) rfl rfl (w_widen (ce' := ce + 29) (sl' := sl + 222) (by first | exact Nat.le_add_right _ _ | exact Nat.add_le_add_left (by decide) _ | omega) (by first | exact Nat.le_add_right _ _ | exact Nat.add_le_add_left (by decide) _ | omega) ?_)
      exact WS_lv (lv := [(0, .ref q1), (1, .ref (A 0)), (2, .ref (A 179)), (3, .ref (A 517)), (4, .int (Int32.ofInt i))]) (List.forall_mem_cons.mpr ⟨(List.Mem.tail _ (List.Mem.head _)), (List.forall_mem_cons.mpr ⟨(List.Mem.tail _ (List.Mem.tail _ (List.Mem.head _))), (List.forall_mem_cons.mpr ⟨(List.Mem.tail _ (List.Mem.tail _ (List.Mem.tail _ (List.Mem.head _)))), (List.forall_mem_cons.mpr ⟨(List.Mem.tail _ (List.Mem.tail _ (List.Mem.tail _ (List.Mem.tail _ (List.Mem.head _))))), (List.forall_mem_cons.mpr ⟨(List.Mem.tail _ (List.Mem.tail _ (List.Mem.tail _ (List.Mem.tail _ (List.Mem.tail _ (List.Mem.head _)))))), (fun q h => absurd h List.not_mem_nil)⟩)⟩)⟩)⟩)⟩) (hk A _ Is17 JRLx_s17 JFEQ_s17 jb19 JPTJ_s17 (by first | exact oq_f34933ba ws17_89 ws12_89 p1 b8.1 | omega) (by first | exact oq_d7ce4408 ws17_12 ws12_12 p2 | omega) (by first | exact oq_5bcdc35f ws17_74 ws17_0 ws12_74 ws12_0 p3 | omega) (by first | exact oq_5bcdc35f ws17_90 ws17_9 ws12_90 ws12_9 p4 | omega) (by first | exact oq_5bcdc35f ws17_98 ws17_20 ws12_98 ws12_20 p5 | omega))
    ·
      exfalso
      omega
    ·
      exfalso
      omega
  ·
    rcases hps17 with mm | mm | mm
    ·
      exfalso
      omega
    ·
      have jb20 : ARJ s17 := ⟨JWQJ_s17, JLIJ_s17, mqj_sam jARJ.2.2.1 (sa4_ts cc.2.2 (sa4_fm Fs17 (by decide +kernel))) (smr_ts (smr_fm Fs12 (by decide +kernel)) (smr_fm Fs17 (by decide +kernel))) (sam_ts (sam_fm Fs12 (by decide)) mm.2.2.1) (sam_ts (sam_fm Fs12 (by decide)) mm.2.2.2), JNZJ_s17, JTWJ_s17, JAIR_s17, JCPL_s17, JRLJ_s17⟩
      refine z_goto X (t := 1894) rfl rfl (w_widen (ce' := ce + 29) (sl' := sl + 222) (by first | exact Nat.le_add_right _ _ | exact Nat.add_le_add_left (by decide) _ | omega) (by first | exact Nat.le_add_right _ _ | exact Nat.add_le_add_left (by decide) _ | omega) ?_)
      exact WS_lv (lv := [(0, .ref q1), (1, .ref (A 0)), (2, .ref (A 179)), (3, .ref (A 517)), (4, .int (Int32.ofInt i))]) (List.forall_mem_cons.mpr ⟨(List.Mem.tail _ (List.Mem.head _)), (List.forall_mem_cons.mpr ⟨(List.Mem.tail _ (List.Mem.tail _ (List.Mem.head _))), (List.forall_mem_cons.mpr ⟨(List.Mem.tail _ (List.Mem.tail _ (List.Mem.tail _ (List.Mem.head _)))), (List.forall_mem_cons.mpr ⟨(List.Mem.tail _ (List.Mem.tail _ (List.Mem.tail _ (List.Mem.tail _ (List.Mem.head _))))), (List.forall_mem_cons.mpr ⟨(List.Mem.tail _ (List.Mem.tail _ (List.Mem.tail _ (List.Mem.tail _ (List.Mem.tail _ (List.Mem.head _)))))), (fun q h => absurd h List.not_mem_nil)⟩)⟩)⟩)⟩)⟩) (hk A _ Is17 JRLx_s17 JFEQ_s17 jb20 JPTJ_s17 (by first | exact oq_f34933ba ws17_89 ws12_89 p1 b8.1 | omega) (by first | exact oq_d7ce4408 ws17_12 ws12_12 p2 | omega) (by first | exact oq_5bcdc35f ws17_74 ws17_0 ws12_74 ws12_0 p3 | omega) (by first | exact oq_5bcdc35f ws17_90 ws17_9 ws12_90 ws12_9 p4 | omega) (by first | exact oq_5bcdc35f ws17_98 ws17_20 ws12_98 ws12_20 p5 | omega))
    ·
      exfalso
      omega
  ·
    rcases hps17 with mm | mm | mm
    ·
      exfalso
      omega
    ·
      exfalso
      omega
    ·
      have jb21 : ARJ s17 := ⟨JWQJ_s17, JLIJ_s17, mqj_sam jARJ.2.2.1 (sa4_ts cc.2.2.2.2 (sa4_fm Fs17 (by decide +kernel))) (smr_ts (smr_fm Fs12 (by decide +kernel)) (smr_fm Fs17 (by decide +kernel))) (sam_ts (sam_fm Fs12 (by decide)) mm.2.2.2.2.1) (sam_ts (sam_fm Fs12 (by decide)) mm.2.2.2.2.2), JNZJ_s17, JTWJ_s17, JAIR_s17, JCPL_s17, JRLJ_s17⟩
      refine z_goto X (t := 1894) rfl rfl (w_widen (ce' := ce + 29) (sl' := sl + 222) (by first | exact Nat.le_add_right _ _ | exact Nat.add_le_add_left (by decide) _ | omega) (by first | exact Nat.le_add_right _ _ | exact Nat.add_le_add_left (by decide) _ | omega) ?_)
      exact WS_lv (lv := [(0, .ref q1), (1, .ref (A 0)), (2, .ref (A 179)), (3, .ref (A 517)), (4, .int (Int32.ofInt i))]) (List.forall_mem_cons.mpr ⟨(List.Mem.tail _ (List.Mem.head _)), (List.forall_mem_cons.mpr ⟨(List.Mem.tail _ (List.Mem.tail _ (List.Mem.head _))), (List.forall_mem_cons.mpr ⟨(List.Mem.tail _ (List.Mem.tail _ (List.Mem.tail _ (List.Mem.head _)))), (List.forall_mem_cons.mpr ⟨(List.Mem.tail _ (List.Mem.tail _ (List.Mem.tail _ (List.Mem.tail _ (List.Mem.head _))))), (List.forall_mem_cons.mpr ⟨(List.Mem.tail _ (List.Mem.tail _ (List.Mem.tail _ (List.Mem.tail _ (List.Mem.tail _ (List.Mem.head _)))))), (fun q h => absurd h List.not_mem_nil)⟩)⟩)⟩)⟩)⟩) (hk A _ Is17 JRLx_s17 JFEQ_s17 jb21 JPTJ_s17 (by first | exact oq_f34933ba ws17_89 ws12_89 p1 b8.1 | omega) (by first | exact oq_d7ce4408 ws17_12 ws12_12 p2 | omega) (by first | exact oq_5bcdc35f ws17_74 ws17_0 ws12_74 ws12_0 p3 | omega) (by first | exact oq_5bcdc35f ws17_90 ws17_9 ws12_90 ws12_9 p4 | omega) (by first | exact oq_5bcdc35f ws17_98 ws17_20 ws12_98 ws12_20 p5 | omega))
theorem lc_7 (G : GX l s0 D tys a0 dT) (GR : RS0 s0) (SF : SF0 s0) (GT : TXs0 s0) (GW : TXw0 s0) {k : kx_T} (X : AX k 350 dT) (E : kL k = l ∧ kS0 k = s0 ∧ kD k = D ∧ kR k = room_1) {q1 L : Nat} {xs : Nat → Int32} (S : SX k q1 L xs) (hL : L ≤ 3072) (I : Bd s) (jR : RLx s) (jFEQ : FEQ s) (jARJ : ARJ s) (jPTJ : PTJ s) (p1 : iI s 89 = 1) (p2 : iI s 12 ≤ 8) (p3 : iI s 0 = iI s 74) (p4 : iI s 9 = iI s 90) (p5 : iI s 20 = iI s 98) {i : Int} (hi : 0 ≤ i ∧ i + 6 ≤ (L : Int)) {ce sl : Nat} (hce : ce + 29 ≤ 601024) (hsl : sl + 222 ≤ 7293034) (hk : ∀ (A : Nat → Nat) (t : PS), Bd t → RLx t → FEQ t → ARJ t → PTJ t → iI t 89 = 1 → iI t 12 ≤ 8 → iI t 0 = iI t 74 → iI t 9 = iI t 90 → iI t 20 = iI t 98 → WS k 1894 [(0, .ref q1), (1, .ref (A 0)), (2, .ref (A 179)), (3, .ref (A 517)), (4, .int (Int32.ofInt i))] [] (Wd A dT t) (ce + 29) (sl + 222)) : WS k 524 [(0, .ref q1), (1, .ref (A 0)), (2, .ref (A 179)), (3, .ref (A 517)), (4, .int (Int32.ofInt i))] [] (Wd A dT s) ce sl := by
  have F : Fm [73] [1460] s s := fm_rf _ _ s
  have b1 := bi_0 I
  have b2 := bi_74 I
  have b3 := bi_9 I
  have b4 := bi_90 I
  have b5 := bi_20 I
  have b6 := bi_98 I
  have b7 := bi_12 I
  have b8 := bi_89 I
  refine z_aload_n X (x := A 0) rfl (List.Mem.tail _ (List.Mem.head _)) (z_aload_n X (x := q1) rfl (List.Mem.head _) (z_load X (x := i) rfl (List.Mem.tail _ (List.Mem.tail _ (List.Mem.tail _ (List.Mem.tail _ (List.Mem.head _))))) (z_const X rfl (z_add X rfl (z_sld X S hL rfl (show 0 ≤ (i + 1) ∧ (i + 1) < (L : Int) by first | exact sx_in hi (by decide) | omega) ?_)))))
  have sr9 : rng (sc xs (i + 1)) := sc_rng
  refine z_aload_n X (x := q1) rfl (List.Mem.head _) (z_load X (x := i) rfl (List.Mem.tail _ (List.Mem.tail _ (List.Mem.tail _ (List.Mem.tail _ (List.Mem.head _))))) (z_const X rfl (z_add X rfl (z_sld X S hL rfl (show 0 ≤ (i + 2) ∧ (i + 2) < (L : Int) by first | exact sx_in hi (by decide) | omega) ?_))))
  have sr10 : rng (sc xs (i + 2)) := sc_rng
  refine z_aload_n X (x := A 517) rfl (List.Mem.tail _ (List.Mem.tail _ (List.Mem.tail _ (List.Mem.head _)))) (z_callL X (rm := rmN 319) (As := [.ref (A 0), .int (Int32.ofInt (sc xs (i + 1))), .int (Int32.ofInt (sc xs (i + 2))), .ref (A 517)]) (st := []) rfl (by decide) rfl (by rw [E.1, E.2.1, E.2.2.1]; exact lw_most2 G I (by first | exact And.intro (sr9.1) (sr9.2) | omega) (by first | exact And.intro (sr10.1) (sr10.2) | omega)) ⟨by rw [E.2.2.2]; exact (show 9 + 1 ≤ 2048 by decide), by rw [E.2.2.2]; exact (show 8 + (5 + 11) + 166 ≤ 84000 by decide), by rw [E.2.2.2]; exact (show ce + 2 ≤ 601024 by first | exact rmo_1 hce (by decide) | exact rmo_2 hce (by decide) | omega), by rw [E.2.2.2]; exact (show sl + 12 ≤ 7293034 by first | exact rmo_1 hsl (by decide) | exact rmo_2 hsl (by decide) | omega)⟩ (Nat.le_of_ble_eq_true rfl) (fun vv A s11 hA2 hq => ?_) (fun ee A s11 hA2 hq => ?_))
  rotate_left
  · obtain ⟨Is11, Fs11, e12, hv, hrs11, hps11⟩ := hq; cases hv
  obtain ⟨Is11, Fs11, e12, hv, hrs11, hps11⟩ := hq
  cases hv
  rw [← hA2 0 (by decide)]
  rw [← hA2 179 (by decide)]
  rw [← hA2 517 (by decide)]
  have JRLx_s11 : RLx s11 := RLx_fm Fs11 (by decide) jR
  have JFEQ_s11 : FEQ s11 := FEQ_fm Fs11 (by decide) jFEQ
  have JARJ_s11 : ARJ s11 := ARJ_fm Fs11 ⟨by decide +kernel, by decide +kernel, by decide +kernel, by decide +kernel, by decide +kernel, by decide +kernel, by decide +kernel, by decide +kernel⟩ jARJ
  have JPTJ_s11 : PTJ s11 := PTJ_fm Fs11 (by decide +kernel) jPTJ
  have ws11_0 : iI s11 0 = iI s 0 := fm_iq Fs11 rfl
  have ws11_74 : iI s11 74 = iI s 74 := fm_iq Fs11 rfl
  have ws11_9 : iI s11 9 = iI s 9 := fm_iq Fs11 rfl
  have ws11_90 : iI s11 90 = iI s 90 := fm_iq Fs11 rfl
  have ws11_20 : iI s11 20 = iI s 20 := fm_iq Fs11 rfl
  have ws11_98 : iI s11 98 = iI s 98 := fm_iq Fs11 rfl
  have ws11_12 : iI s11 12 = iI s 12 := fm_iq Fs11 rfl
  have ws11_89 : iI s11 89 = iI s 89 := fm_iq Fs11 rfl
  show WS k 541 [(0, .ref q1), (1, .ref (A 0)), (2, .ref (A 179)), (3, .ref (A 517)), (4, .int (Int32.ofInt i))] [.int (Int32.ofInt e12)] (Wd A dT s11) (ce + 2) (sl + 12)
  refine z_store X (lv' := [(5, .int (Int32.ofInt e12)), (0, .ref q1), (1, .ref (A 0)), (2, .ref (A 179)), (3, .ref (A 517)), (4, .int (Int32.ofInt i))]) rfl (by decide) (fun _ h => h) (z_aload_n X (x := A 179) rfl (List.Mem.tail _ (List.Mem.tail _ (List.Mem.tail _ (List.Mem.head _)))) (z_aload_n X (x := q1) rfl (List.Mem.tail _ (List.Mem.head _)) (z_load X (x := i) rfl (List.Mem.tail _ (List.Mem.tail _ (List.Mem.tail _ (List.Mem.tail _ (List.Mem.tail _ (List.Mem.head _)))))) (z_const X rfl (z_add X rfl (z_sld X S hL rfl (show 0 ≤ (i + 1) ∧ (i + 1) < (L : Int) by first | exact sx_in hi (by decide) | omega) ?_))))))
  have sr13 : rng (sc xs (i + 1)) := sc_rng
  refine z_aload_n X (x := q1) rfl (List.Mem.tail _ (List.Mem.head _)) (z_load X (x := i) rfl (List.Mem.tail _ (List.Mem.tail _ (List.Mem.tail _ (List.Mem.tail _ (List.Mem.tail _ (List.Mem.head _)))))) (z_const X rfl (z_add X rfl (z_sld X S hL rfl (show 0 ≤ (i + 2) ∧ (i + 2) < (L : Int) by first | exact sx_in hi (by decide) | omega) ?_))))
  have sr14 : rng (sc xs (i + 2)) := sc_rng
  refine z_callV X 179 (rm := rmN 221) (As := [.int (Int32.ofInt (sc xs (i + 1))), .int (Int32.ofInt (sc xs (i + 2)))]) (st := []) rfl rfl (by decide) rfl (by rw [E.1, E.2.1, E.2.2.1]; exact k_most2 G Is11 (by first | exact ⟨sr13.1, sr13.2⟩ | omega) (by first | exact ⟨sr14.1, sr14.2⟩ | omega)) ⟨by rw [E.2.2.2]; exact (show 8 + 1 ≤ 2048 from oq_5bf2829b), by rw [E.2.2.2]; exact (show 8 + (3 + 11) + 146 ≤ 84000 from oq_263907be), by rw [E.2.2.2]; exact (show (ce + 2) + 0 ≤ 601024 by first | exact oq_9132574d hce | (clear hps11; omega) | omega), by rw [E.2.2.2]; exact (show (sl + 12) + 0 ≤ 7293034 by first | exact oq_2b178334 hsl | (clear hps11; omega) | omega)⟩ (Nat.le_of_ble_eq_true rfl) (fun vv s15 hq => ?_) (fun ee s15 hq => ?_)
  rotate_left
  · obtain ⟨Is15, Fs15, e16, hv, hrs15, hps15⟩ := hq; cases hv
  obtain ⟨Is15, Fs15, e16, hv, hrs15, hps15⟩ := hq
  cases hv
  have JRLx_s15 : RLx s15 := RLx_fm Fs15 (by decide) JRLx_s11
  have JFEQ_s15 : FEQ s15 := FEQ_fm Fs15 (by decide) JFEQ_s11
  have JARJ_s15 : ARJ s15 := ARJ_fm Fs15 ⟨by decide +kernel, by decide +kernel, by decide +kernel, by decide +kernel, by decide +kernel, by decide +kernel, by decide +kernel, by decide +kernel⟩ JARJ_s11
  have JPTJ_s15 : PTJ s15 := PTJ_fm Fs15 (by decide +kernel) JPTJ_s11
  have ws15_0 : iI s15 0 = iI s11 0 := fm_iq Fs15 rfl
  have ws15_74 : iI s15 74 = iI s11 74 := fm_iq Fs15 rfl
  have ws15_9 : iI s15 9 = iI s11 9 := fm_iq Fs15 rfl
  have ws15_90 : iI s15 90 = iI s11 90 := fm_iq Fs15 rfl
  have ws15_20 : iI s15 20 = iI s11 20 := fm_iq Fs15 rfl
  have ws15_98 : iI s15 98 = iI s11 98 := fm_iq Fs15 rfl
  have ws15_12 : iI s15 12 = iI s11 12 := fm_iq Fs15 rfl
  have ws15_89 : iI s15 89 = iI s11 89 := fm_iq Fs15 rfl
  have wos15 : iO s15 = iO s11 := fm_o Fs15 (by decide)
  show WS k 559 [(5, .int (Int32.ofInt e12)), (0, .ref q1), (1, .ref (A 0)), (2, .ref (A 179)), (3, .ref (A 517)), (4, .int (Int32.ofInt i))] [.int (Int32.ofInt e16)] (Wd A dT s15) (ce + 2) (sl + 12)
  refine z_store X (lv' := [(6, .int (Int32.ofInt e16)), (5, .int (Int32.ofInt e12)), (0, .ref q1), (1, .ref (A 0)), (2, .ref (A 179)), (3, .ref (A 517)), (4, .int (Int32.ofInt i))]) rfl (by decide) (fun _ h => h) (z_goto X (t := 1894) rfl rfl (w_widen (ce' := ce + 29) (sl' := sl + 222) (by first | exact Nat.le_add_right _ _ | exact Nat.add_le_add_left (by decide) _ | omega) (by first | exact Nat.le_add_right _ _ | exact Nat.add_le_add_left (by decide) _ | omega) ?_))
  exact WS_lv (lv := [(0, .ref q1), (1, .ref (A 0)), (2, .ref (A 179)), (3, .ref (A 517)), (4, .int (Int32.ofInt i))]) (List.forall_mem_cons.mpr ⟨(List.Mem.tail _ (List.Mem.tail _ (List.Mem.head _))), (List.forall_mem_cons.mpr ⟨(List.Mem.tail _ (List.Mem.tail _ (List.Mem.tail _ (List.Mem.head _)))), (List.forall_mem_cons.mpr ⟨(List.Mem.tail _ (List.Mem.tail _ (List.Mem.tail _ (List.Mem.tail _ (List.Mem.head _))))), (List.forall_mem_cons.mpr ⟨(List.Mem.tail _ (List.Mem.tail _ (List.Mem.tail _ (List.Mem.tail _ (List.Mem.tail _ (List.Mem.head _)))))), (List.forall_mem_cons.mpr ⟨(List.Mem.tail _ (List.Mem.tail _ (List.Mem.tail _ (List.Mem.tail _ (List.Mem.tail _ (List.Mem.tail _ (List.Mem.head _))))))), (fun q h => absurd h List.not_mem_nil)⟩)⟩)⟩)⟩)⟩) (hk A _ Is15 JRLx_s15 JFEQ_s15 JARJ_s15 JPTJ_s15 (by first | exact oq_f34933ba ws15_89 ws11_89 p1 b8.1 | omega) (by first | exact oq_d7ce4408 ws15_12 ws11_12 p2 | omega) (by first | exact oq_5bcdc35f ws15_74 ws15_0 ws11_74 ws11_0 p3 | omega) (by first | exact oq_5bcdc35f ws15_90 ws15_9 ws11_90 ws11_9 p4 | omega) (by first | exact oq_5bcdc35f ws15_98 ws15_20 ws11_98 ws11_20 p5 | omega))
theorem lc_8 (G : GX l s0 D tys a0 dT) (GR : RS0 s0) (SF : SF0 s0) (GT : TXs0 s0) (GW : TXw0 s0) {k : kx_T} (X : AX k 350 dT) (E : kL k = l ∧ kS0 k = s0 ∧ kD k = D ∧ kR k = room_1) {q1 L : Nat} {xs : Nat → Int32} (S : SX k q1 L xs) (hL : L ≤ 3072) (I : Bd s) (jR : RLx s) (jFEQ : FEQ s) (jARJ : ARJ s) (jPTJ : PTJ s) (p1 : iI s 89 = 1) (p2 : iI s 12 ≤ 8) (p3 : iI s 0 = iI s 74) (p4 : iI s 9 = iI s 90) (p5 : iI s 20 = iI s 98) {i : Int} (hi : 0 ≤ i ∧ i + 6 ≤ (L : Int)) {ce sl : Nat} (hce : ce + 29 ≤ 601024) (hsl : sl + 222 ≤ 7293034) (hk : ∀ (A : Nat → Nat) (t : PS), Bd t → RLx t → FEQ t → ARJ t → PTJ t → iI t 89 = 1 → iI t 12 ≤ 8 → iI t 0 = iI t 74 → iI t 9 = iI t 90 → iI t 20 = iI t 98 → WS k 1894 [(0, .ref q1), (1, .ref (A 0)), (2, .ref (A 179)), (3, .ref (A 517)), (4, .int (Int32.ofInt i))] [] (Wd A dT t) (ce + 29) (sl + 222)) : WS k 564 [(0, .ref q1), (1, .ref (A 0)), (2, .ref (A 179)), (3, .ref (A 517)), (4, .int (Int32.ofInt i))] [] (Wd A dT s) ce sl := by
  have F : Fm [73] [21, 1022, 1023, 1460, 228] s s := fm_rf _ _ s
  have b1 := bi_0 I
  have b2 := bi_74 I
  have b3 := bi_9 I
  have b4 := bi_90 I
  have b5 := bi_20 I
  have b6 := bi_98 I
  have b7 := bi_12 I
  have b8 := bi_89 I
  refine z_aload_n X (x := A 0) rfl (List.Mem.tail _ (List.Mem.head _)) (z_aload_n X (x := q1) rfl (List.Mem.head _) (z_load X (x := i) rfl (List.Mem.tail _ (List.Mem.tail _ (List.Mem.tail _ (List.Mem.tail _ (List.Mem.head _))))) (z_const X rfl (z_add X rfl (z_sld X S hL rfl (show 0 ≤ (i + 1) ∧ (i + 1) < (L : Int) by first | exact sx_in hi (by decide) | omega) ?_)))))
  have sr9 : rng (sc xs (i + 1)) := sc_rng
  refine z_aload_n X (x := q1) rfl (List.Mem.head _) (z_load X (x := i) rfl (List.Mem.tail _ (List.Mem.tail _ (List.Mem.tail _ (List.Mem.tail _ (List.Mem.head _))))) (z_const X rfl (z_add X rfl (z_sld X S hL rfl (show 0 ≤ (i + 2) ∧ (i + 2) < (L : Int) by first | exact sx_in hi (by decide) | omega) ?_))))
  have sr10 : rng (sc xs (i + 2)) := sc_rng
  refine z_aload_n X (x := A 517) rfl (List.Mem.tail _ (List.Mem.tail _ (List.Mem.tail _ (List.Mem.head _)))) (z_callL X (rm := rmN 320) (As := [.ref (A 0), .int (Int32.ofInt (sc xs (i + 1))), .int (Int32.ofInt (sc xs (i + 2))), .ref (A 517)]) (st := []) rfl (by decide) rfl (by rw [E.1, E.2.1, E.2.2.1]; exact lw_assign6 G I jPTJ.1 (by omega) (by omega)) ⟨by rw [E.2.2.2]; exact (show 8 + 1 ≤ 2048 by decide), by rw [E.2.2.2]; exact (show 8 + (5 + 11) + 148 ≤ 84000 by decide), by rw [E.2.2.2]; exact (show ce + 2 ≤ 601024 by first | exact rmo_1 hce (by decide) | exact rmo_2 hce (by decide) | omega), by rw [E.2.2.2]; exact (show sl + 12 ≤ 7293034 by first | exact rmo_1 hsl (by decide) | exact rmo_2 hsl (by decide) | omega)⟩ (Nat.le_of_ble_eq_true rfl) (fun vv A s11 hA2 hq => ?_) (fun ee A s11 hA2 hq => ?_))
  rotate_left
  · obtain ⟨Is11, Fs11, JPMJ_s11, e12, hv, hrs11, hps11⟩ := hq; cases hv
  obtain ⟨Is11, Fs11, JPMJ_s11, e12, hv, hrs11, hps11⟩ := hq
  cases hv
  rw [← hA2 0 (by decide)]
  rw [← hA2 179 (by decide)]
  rw [← hA2 517 (by decide)]
  have JRLx_s11 : RLx s11 := RLx_fm Fs11 (by decide) jR
  have JFEQ_s11 : FEQ s11 := FEQ_fm Fs11 (by decide) jFEQ
  have JARJ_s11 : ARJ s11 := ARJ_fm Fs11 ⟨by decide +kernel, by decide +kernel, by decide +kernel, by decide +kernel, by decide +kernel, by decide +kernel, by decide +kernel, by decide +kernel⟩ jARJ
  have JALJ_s11 : AEQ 24 229 8 s11 := ALJ_fm Fs11 (by decide) jPTJ.2.2.1
  have JMKJ_s11 : MKJ s11 := MKJ_fm Fs11 (by decide +kernel) jPTJ.2.2.2
  have ws11_0 : iI s11 0 = iI s 0 := fm_iq Fs11 rfl
  have ws11_74 : iI s11 74 = iI s 74 := fm_iq Fs11 rfl
  have ws11_9 : iI s11 9 = iI s 9 := fm_iq Fs11 rfl
  have ws11_90 : iI s11 90 = iI s 90 := fm_iq Fs11 rfl
  have ws11_20 : iI s11 20 = iI s 20 := fm_iq Fs11 rfl
  have ws11_98 : iI s11 98 = iI s 98 := fm_iq Fs11 rfl
  have ws11_12 : iI s11 12 = iI s 12 := fm_iq Fs11 rfl
  have ws11_89 : iI s11 89 = iI s 89 := fm_iq Fs11 rfl
  show WS k 581 [(0, .ref q1), (1, .ref (A 0)), (2, .ref (A 179)), (3, .ref (A 517)), (4, .int (Int32.ofInt i))] [.int (Int32.ofInt e12)] (Wd A dT s11) (ce + 2) (sl + 12)
  refine z_store X (lv' := [(5, .int (Int32.ofInt e12)), (0, .ref q1), (1, .ref (A 0)), (2, .ref (A 179)), (3, .ref (A 517)), (4, .int (Int32.ofInt i))]) rfl (by decide) (fun _ h => h) (z_aload_n X (x := A 179) rfl (List.Mem.tail _ (List.Mem.tail _ (List.Mem.tail _ (List.Mem.head _)))) (z_aload_n X (x := q1) rfl (List.Mem.tail _ (List.Mem.head _)) (z_load X (x := i) rfl (List.Mem.tail _ (List.Mem.tail _ (List.Mem.tail _ (List.Mem.tail _ (List.Mem.tail _ (List.Mem.head _)))))) (z_const X rfl (z_add X rfl (z_sld X S hL rfl (show 0 ≤ (i + 1) ∧ (i + 1) < (L : Int) by first | exact sx_in hi (by decide) | omega) ?_))))))
  have sr13 : rng (sc xs (i + 1)) := sc_rng
  refine z_aload_n X (x := q1) rfl (List.Mem.tail _ (List.Mem.head _)) (z_load X (x := i) rfl (List.Mem.tail _ (List.Mem.tail _ (List.Mem.tail _ (List.Mem.tail _ (List.Mem.tail _ (List.Mem.head _)))))) (z_const X rfl (z_add X rfl (z_sld X S hL rfl (show 0 ≤ (i + 2) ∧ (i + 2) < (L : Int) by first | exact sx_in hi (by decide) | omega) ?_))))
  have sr14 : rng (sc xs (i + 2)) := sc_rng
  refine z_callV X 179 (rm := rmN 234) (As := [.int (Int32.ofInt (sc xs (i + 1))), .int (Int32.ofInt (sc xs (i + 2)))]) (st := []) rfl rfl (by decide) rfl (by rw [E.1, E.2.1, E.2.2.1]; exact k_assign6 G Is11 (by first | exact ⟨sr13.1, sr13.2⟩ | omega) (by first | exact ⟨sr14.1, sr14.2⟩ | omega)) ⟨by rw [E.2.2.2]; exact (show 7 + 1 ≤ 2048 from oq_4e6106eb), by rw [E.2.2.2]; exact (show 8 + (4 + 11) + 122 ≤ 84000 from oq_ebbf79c1), by rw [E.2.2.2]; exact (show (ce + 2) + 0 ≤ 601024 by first | (clear hps11; omega) | omega), by rw [E.2.2.2]; exact (show (sl + 12) + 0 ≤ 7293034 by first | (clear hps11; omega) | omega)⟩ (Nat.le_of_ble_eq_true rfl) (fun vv s15 hq => ?_) (fun ee s15 hq => ?_)
  rotate_left
  · obtain ⟨Is15, Fs15, e16, hv, hrs15, hps15⟩ := hq; cases hv
  obtain ⟨Is15, Fs15, e16, hv, hrs15, hps15⟩ := hq
  cases hv
  have JRLx_s15 : RLx s15 := RLx_fm Fs15 (by decide) JRLx_s11
  have JFEQ_s15 : FEQ s15 := FEQ_fm Fs15 (by decide) JFEQ_s11
  have JARJ_s15 : ARJ s15 := ARJ_fm Fs15 ⟨by decide +kernel, by decide +kernel, by decide +kernel, by decide +kernel, by decide +kernel, by decide +kernel, by decide +kernel, by decide +kernel⟩ JARJ_s11
  have JALJ_s15 : AEQ 24 229 8 s15 := ALJ_fm Fs15 (by decide) JALJ_s11
  have JMKJ_s15 : MKJ s15 := MKJ_fm Fs15 (by decide +kernel) JMKJ_s11
  have JPMJ_s15 : PMJ s15 := PMJ_fm Fs15 (by decide +kernel) JPMJ_s11
  have ws15_0 : iI s15 0 = iI s11 0 := fm_iq Fs15 rfl
  have ws15_74 : iI s15 74 = iI s11 74 := fm_iq Fs15 rfl
  have ws15_9 : iI s15 9 = iI s11 9 := fm_iq Fs15 rfl
  have ws15_90 : iI s15 90 = iI s11 90 := fm_iq Fs15 rfl
  have ws15_20 : iI s15 20 = iI s11 20 := fm_iq Fs15 rfl
  have ws15_98 : iI s15 98 = iI s11 98 := fm_iq Fs15 rfl
  have ws15_12 : iI s15 12 = iI s11 12 := fm_iq Fs15 rfl
  have ws15_89 : iI s15 89 = iI s11 89 := fm_iq Fs15 rfl
  have wos15 : iO s15 = iO s11 := fm_o Fs15 (by decide)
  show WS k 599 [(5, .int (Int32.ofInt e12)), (0, .ref q1), (1, .ref (A 0)), (2, .ref (A 179)), (3, .ref (A 517)), (4, .int (Int32.ofInt i))] [.int (Int32.ofInt e16)] (Wd A dT s15) (ce + 2) (sl + 12)
  rcases hps11 with cc | cc
  ·
    rcases hps15 with mm | mm
    ·
      have jb17 : PTJ s15 := ⟨JPMJ_s15, aeq_upd jPTJ.2.1 cc.2.2.2.2.2.2 (sam_fm Fs11 (by decide +kernel)) mm.2.2.2.2.2.2 (sam_fm Fs15 (by decide +kernel)), JALJ_s15, JMKJ_s15⟩
      have rq18 := aeq_at (i := (sc xs (i + 1))) jPTJ.2.1 (sam_fm Fs11 (by decide +kernel)) (by first | (clear hps15 hps11; omega) | (clear hps11; omega) | omega)
      refine z_store X (lv' := [(6, .int (Int32.ofInt e16)), (5, .int (Int32.ofInt e12)), (0, .ref q1), (1, .ref (A 0)), (2, .ref (A 179)), (3, .ref (A 517)), (4, .int (Int32.ofInt i))]) rfl (by decide) (fun _ h => h) (z_goto X (t := 1894) rfl rfl (w_widen (ce' := ce + 29) (sl' := sl + 222) (by first | exact Nat.le_add_right _ _ | exact Nat.add_le_add_left (by decide) _ | omega) (by first | exact Nat.le_add_right _ _ | exact Nat.add_le_add_left (by decide) _ | omega) ?_))
      exact WS_lv (lv := [(0, .ref q1), (1, .ref (A 0)), (2, .ref (A 179)), (3, .ref (A 517)), (4, .int (Int32.ofInt i))]) (List.forall_mem_cons.mpr ⟨(List.Mem.tail _ (List.Mem.tail _ (List.Mem.head _))), (List.forall_mem_cons.mpr ⟨(List.Mem.tail _ (List.Mem.tail _ (List.Mem.tail _ (List.Mem.head _)))), (List.forall_mem_cons.mpr ⟨(List.Mem.tail _ (List.Mem.tail _ (List.Mem.tail _ (List.Mem.tail _ (List.Mem.head _))))), (List.forall_mem_cons.mpr ⟨(List.Mem.tail _ (List.Mem.tail _ (List.Mem.tail _ (List.Mem.tail _ (List.Mem.tail _ (List.Mem.head _)))))), (List.forall_mem_cons.mpr ⟨(List.Mem.tail _ (List.Mem.tail _ (List.Mem.tail _ (List.Mem.tail _ (List.Mem.tail _ (List.Mem.tail _ (List.Mem.head _))))))), (fun q h => absurd h List.not_mem_nil)⟩)⟩)⟩)⟩)⟩) (hk A _ Is15 JRLx_s15 JFEQ_s15 JARJ_s15 jb17 (by first | exact oq_f34933ba ws15_89 ws11_89 p1 b8.1 | omega) (by first | exact oq_d7ce4408 ws15_12 ws11_12 p2 | omega) (by first | exact oq_5bcdc35f ws15_74 ws15_0 ws11_74 ws11_0 p3 | omega) (by first | exact oq_5bcdc35f ws15_90 ws15_9 ws11_90 ws11_9 p4 | omega) (by first | exact oq_5bcdc35f ws15_98 ws15_20 ws11_98 ws11_20 p5 | omega))
    ·
      exfalso
      omega
  ·
    rcases hps15 with mm | mm
    ·
      exfalso
      omega
    ·
      have jb19 : PTJ s15 := ⟨JPMJ_s15, aeq_sam jPTJ.2.1 (sam_ts cc.2 (sam_fm Fs15 (by decide +kernel))) (sam_ts (sam_fm Fs11 (by decide +kernel)) mm.2), JALJ_s15, JMKJ_s15⟩
      refine z_store X (lv' := [(6, .int (Int32.ofInt e16)), (5, .int (Int32.ofInt e12)), (0, .ref q1), (1, .ref (A 0)), (2, .ref (A 179)), (3, .ref (A 517)), (4, .int (Int32.ofInt i))]) rfl (by decide) (fun _ h => h) (z_goto X (t := 1894) rfl rfl (w_widen (ce' := ce + 29) (sl' := sl + 222) (by first | exact Nat.le_add_right _ _ | exact Nat.add_le_add_left (by decide) _ | omega) (by first | exact Nat.le_add_right _ _ | exact Nat.add_le_add_left (by decide) _ | omega) ?_))
      exact WS_lv (lv := [(0, .ref q1), (1, .ref (A 0)), (2, .ref (A 179)), (3, .ref (A 517)), (4, .int (Int32.ofInt i))]) (List.forall_mem_cons.mpr ⟨(List.Mem.tail _ (List.Mem.tail _ (List.Mem.head _))), (List.forall_mem_cons.mpr ⟨(List.Mem.tail _ (List.Mem.tail _ (List.Mem.tail _ (List.Mem.head _)))), (List.forall_mem_cons.mpr ⟨(List.Mem.tail _ (List.Mem.tail _ (List.Mem.tail _ (List.Mem.tail _ (List.Mem.head _))))), (List.forall_mem_cons.mpr ⟨(List.Mem.tail _ (List.Mem.tail _ (List.Mem.tail _ (List.Mem.tail _ (List.Mem.tail _ (List.Mem.head _)))))), (List.forall_mem_cons.mpr ⟨(List.Mem.tail _ (List.Mem.tail _ (List.Mem.tail _ (List.Mem.tail _ (List.Mem.tail _ (List.Mem.tail _ (List.Mem.head _))))))), (fun q h => absurd h List.not_mem_nil)⟩)⟩)⟩)⟩)⟩) (hk A _ Is15 JRLx_s15 JFEQ_s15 JARJ_s15 jb19 (by first | exact oq_f34933ba ws15_89 ws11_89 p1 b8.1 | omega) (by first | exact oq_d7ce4408 ws15_12 ws11_12 p2 | omega) (by first | exact oq_5bcdc35f ws15_74 ws15_0 ws11_74 ws11_0 p3 | omega) (by first | exact oq_5bcdc35f ws15_90 ws15_9 ws11_90 ws11_9 p4 | omega) (by first | exact oq_5bcdc35f ws15_98 ws15_20 ws11_98 ws11_20 p5 | omega))
theorem lc_9 (G : GX l s0 D tys a0 dT) (GR : RS0 s0) (SF : SF0 s0) (GT : TXs0 s0) (GW : TXw0 s0) {k : kx_T} (X : AX k 350 dT) (E : kL k = l ∧ kS0 k = s0 ∧ kD k = D ∧ kR k = room_1) {q1 L : Nat} {xs : Nat → Int32} (S : SX k q1 L xs) (hL : L ≤ 3072) (I : Bd s) (jR : RLx s) (jFEQ : FEQ s) (jARJ : ARJ s) (jPTJ : PTJ s) (p1 : iI s 89 = 1) (p2 : iI s 12 ≤ 8) (p3 : iI s 0 = iI s 74) (p4 : iI s 9 = iI s 90) (p5 : iI s 20 = iI s 98) {i : Int} (hi : 0 ≤ i ∧ i + 6 ≤ (L : Int)) {ce sl : Nat} (hce : ce + 29 ≤ 601024) (hsl : sl + 222 ≤ 7293034) (hk : ∀ (A : Nat → Nat) (t : PS), Bd t → RLx t → FEQ t → ARJ t → PTJ t → iI t 89 = 1 → iI t 12 ≤ 8 → iI t 0 = iI t 74 → iI t 9 = iI t 90 → iI t 20 = iI t 98 → WS k 1894 [(0, .ref q1), (1, .ref (A 0)), (2, .ref (A 179)), (3, .ref (A 517)), (4, .int (Int32.ofInt i))] [] (Wd A dT t) (ce + 29) (sl + 222)) : WS k 604 [(0, .ref q1), (1, .ref (A 0)), (2, .ref (A 179)), (3, .ref (A 517)), (4, .int (Int32.ofInt i))] [] (Wd A dT s) ce sl := by
  have F : Fm [73] [21, 1022, 1023, 1460, 228] s s := fm_rf _ _ s
  have b1 := bi_0 I
  have b2 := bi_74 I
  have b3 := bi_9 I
  have b4 := bi_90 I
  have b5 := bi_20 I
  have b6 := bi_98 I
  have b7 := bi_12 I
  have b8 := bi_89 I
  refine z_aload_n X (x := A 0) rfl (List.Mem.tail _ (List.Mem.head _)) (z_aload_n X (x := q1) rfl (List.Mem.head _) (z_load X (x := i) rfl (List.Mem.tail _ (List.Mem.tail _ (List.Mem.tail _ (List.Mem.tail _ (List.Mem.head _))))) (z_const X rfl (z_add X rfl (z_sld X S hL rfl (show 0 ≤ (i + 1) ∧ (i + 1) < (L : Int) by first | exact sx_in hi (by decide) | omega) ?_)))))
  have sr9 : rng (sc xs (i + 1)) := sc_rng
  refine z_aload_n X (x := q1) rfl (List.Mem.head _) (z_load X (x := i) rfl (List.Mem.tail _ (List.Mem.tail _ (List.Mem.tail _ (List.Mem.tail _ (List.Mem.head _))))) (z_const X rfl (z_add X rfl (z_sld X S hL rfl (show 0 ≤ (i + 2) ∧ (i + 2) < (L : Int) by first | exact sx_in hi (by decide) | omega) ?_))))
  have sr10 : rng (sc xs (i + 2)) := sc_rng
  refine z_aload_n X (x := q1) rfl (List.Mem.head _) (z_load X (x := i) rfl (List.Mem.tail _ (List.Mem.tail _ (List.Mem.tail _ (List.Mem.tail _ (List.Mem.head _))))) (z_const X rfl (z_add X rfl (z_sld X S hL rfl (show 0 ≤ (i + 3) ∧ (i + 3) < (L : Int) by first | exact sx_in hi (by decide) | omega) ?_))))
  have sr11 : rng (sc xs (i + 3)) := sc_rng
  refine z_aload_n X (x := A 517) rfl (List.Mem.tail _ (List.Mem.tail _ (List.Mem.tail _ (List.Mem.head _)))) (z_callL X (rm := rmN 321) (As := [.ref (A 0), .int (Int32.ofInt (sc xs (i + 1))), .int (Int32.ofInt (sc xs (i + 2))), .int (Int32.ofInt (sc xs (i + 3))), .ref (A 517)]) (st := []) rfl (by decide) rfl (by rw [E.1, E.2.1, E.2.2.1]; exact lw_paint6 G I jPTJ.1 (by omega) (by omega) (by omega)) ⟨by rw [E.2.2.2]; exact (show 9 + 1 ≤ 2048 by decide), by rw [E.2.2.2]; exact (show 8 + (6 + 11) + 175 ≤ 84000 by decide), by rw [E.2.2.2]; exact (show ce + 4 ≤ 601024 by first | exact rmo_1 hce (by decide) | exact rmo_2 hce (by decide) | omega), by rw [E.2.2.2]; exact (show sl + 24 ≤ 7293034 by first | exact rmo_1 hsl (by decide) | exact rmo_2 hsl (by decide) | omega)⟩ (Nat.le_of_ble_eq_true rfl) (fun vv A s12 hA2 hq => ?_) (fun ee A s12 hA2 hq => ?_))
  rotate_left
  · obtain ⟨Is12, Fs12, JPMJ_s12, e13, hv, hrs12, hps12⟩ := hq; cases hv
  obtain ⟨Is12, Fs12, JPMJ_s12, e13, hv, hrs12, hps12⟩ := hq
  cases hv
  rw [← hA2 0 (by decide)]
  rw [← hA2 179 (by decide)]
  rw [← hA2 517 (by decide)]
  have JRLx_s12 : RLx s12 := RLx_fm Fs12 (by decide) jR
  have JFEQ_s12 : FEQ s12 := FEQ_fm Fs12 (by decide) jFEQ
  have JARJ_s12 : ARJ s12 := ARJ_fm Fs12 ⟨by decide +kernel, by decide +kernel, by decide +kernel, by decide +kernel, by decide +kernel, by decide +kernel, by decide +kernel, by decide +kernel⟩ jARJ
  have JALJ_s12 : AEQ 24 229 8 s12 := ALJ_fm Fs12 (by decide) jPTJ.2.2.1
  have JMKJ_s12 : MKJ s12 := MKJ_fm Fs12 (by decide +kernel) jPTJ.2.2.2
  have ws12_0 : iI s12 0 = iI s 0 := fm_iq Fs12 rfl
  have ws12_74 : iI s12 74 = iI s 74 := fm_iq Fs12 rfl
  have ws12_9 : iI s12 9 = iI s 9 := fm_iq Fs12 rfl
  have ws12_90 : iI s12 90 = iI s 90 := fm_iq Fs12 rfl
  have ws12_20 : iI s12 20 = iI s 20 := fm_iq Fs12 rfl
  have ws12_98 : iI s12 98 = iI s 98 := fm_iq Fs12 rfl
  have ws12_12 : iI s12 12 = iI s 12 := fm_iq Fs12 rfl
  have ws12_89 : iI s12 89 = iI s 89 := fm_iq Fs12 rfl
  show WS k 627 [(0, .ref q1), (1, .ref (A 0)), (2, .ref (A 179)), (3, .ref (A 517)), (4, .int (Int32.ofInt i))] [.int (Int32.ofInt e13)] (Wd A dT s12) (ce + 4) (sl + 24)
  refine z_store X (lv' := [(5, .int (Int32.ofInt e13)), (0, .ref q1), (1, .ref (A 0)), (2, .ref (A 179)), (3, .ref (A 517)), (4, .int (Int32.ofInt i))]) rfl (by decide) (fun _ h => h) (z_aload_n X (x := A 179) rfl (List.Mem.tail _ (List.Mem.tail _ (List.Mem.tail _ (List.Mem.head _)))) (z_aload_n X (x := q1) rfl (List.Mem.tail _ (List.Mem.head _)) (z_load X (x := i) rfl (List.Mem.tail _ (List.Mem.tail _ (List.Mem.tail _ (List.Mem.tail _ (List.Mem.tail _ (List.Mem.head _)))))) (z_const X rfl (z_add X rfl (z_sld X S hL rfl (show 0 ≤ (i + 1) ∧ (i + 1) < (L : Int) by first | exact sx_in hi (by decide) | omega) ?_))))))
  have sr14 : rng (sc xs (i + 1)) := sc_rng
  refine z_aload_n X (x := q1) rfl (List.Mem.tail _ (List.Mem.head _)) (z_load X (x := i) rfl (List.Mem.tail _ (List.Mem.tail _ (List.Mem.tail _ (List.Mem.tail _ (List.Mem.tail _ (List.Mem.head _)))))) (z_const X rfl (z_add X rfl (z_sld X S hL rfl (show 0 ≤ (i + 2) ∧ (i + 2) < (L : Int) by first | exact sx_in hi (by decide) | omega) ?_))))
  have sr15 : rng (sc xs (i + 2)) := sc_rng
  refine z_aload_n X (x := q1) rfl (List.Mem.tail _ (List.Mem.head _)) (z_load X (x := i) rfl (List.Mem.tail _ (List.Mem.tail _ (List.Mem.tail _ (List.Mem.tail _ (List.Mem.tail _ (List.Mem.head _)))))) (z_const X rfl (z_add X rfl (z_sld X S hL rfl (show 0 ≤ (i + 3) ∧ (i + 3) < (L : Int) by first | exact sx_in hi (by decide) | omega) ?_))))
  have sr16 : rng (sc xs (i + 3)) := sc_rng
  refine z_callV X 179 (rm := rmN 235) (As := [.int (Int32.ofInt (sc xs (i + 1))), .int (Int32.ofInt (sc xs (i + 2))), .int (Int32.ofInt (sc xs (i + 3)))]) (st := []) rfl rfl (by decide) rfl (by rw [E.1, E.2.1, E.2.2.1]; exact k_paint6 G Is12 (by first | exact ⟨sr14.1, sr14.2⟩ | omega) (by first | exact ⟨sr15.1, sr15.2⟩ | omega) (by first | exact ⟨sr16.1, sr16.2⟩ | omega)) ⟨by rw [E.2.2.2]; exact (show 7 + 1 ≤ 2048 from oq_4e6106eb), by rw [E.2.2.2]; exact (show 8 + (6 + 11) + 122 ≤ 84000 from oq_380e4f97), by rw [E.2.2.2]; exact (show (ce + 4) + 0 ≤ 601024 by first | (clear hps12; omega) | omega), by rw [E.2.2.2]; exact (show (sl + 24) + 0 ≤ 7293034 by first | (clear hps12; omega) | omega)⟩ (Nat.le_of_ble_eq_true rfl) (fun vv s17 hq => ?_) (fun ee s17 hq => ?_)
  rotate_left
  · obtain ⟨Is17, Fs17, e18, hv, hrs17, hps17⟩ := hq; cases hv
  obtain ⟨Is17, Fs17, e18, hv, hrs17, hps17⟩ := hq
  cases hv
  have JRLx_s17 : RLx s17 := RLx_fm Fs17 (by decide) JRLx_s12
  have JFEQ_s17 : FEQ s17 := FEQ_fm Fs17 (by decide) JFEQ_s12
  have JARJ_s17 : ARJ s17 := ARJ_fm Fs17 ⟨by decide +kernel, by decide +kernel, by decide +kernel, by decide +kernel, by decide +kernel, by decide +kernel, by decide +kernel, by decide +kernel⟩ JARJ_s12
  have JALJ_s17 : AEQ 24 229 8 s17 := ALJ_fm Fs17 (by decide) JALJ_s12
  have JMKJ_s17 : MKJ s17 := MKJ_fm Fs17 (by decide +kernel) JMKJ_s12
  have JPMJ_s17 : PMJ s17 := PMJ_fm Fs17 (by decide +kernel) JPMJ_s12
  have ws17_0 : iI s17 0 = iI s12 0 := fm_iq Fs17 rfl
  have ws17_74 : iI s17 74 = iI s12 74 := fm_iq Fs17 rfl
  have ws17_9 : iI s17 9 = iI s12 9 := fm_iq Fs17 rfl
  have ws17_90 : iI s17 90 = iI s12 90 := fm_iq Fs17 rfl
  have ws17_20 : iI s17 20 = iI s12 20 := fm_iq Fs17 rfl
  have ws17_98 : iI s17 98 = iI s12 98 := fm_iq Fs17 rfl
  have ws17_12 : iI s17 12 = iI s12 12 := fm_iq Fs17 rfl
  have ws17_89 : iI s17 89 = iI s12 89 := fm_iq Fs17 rfl
  have wos17 : iO s17 = iO s12 := fm_o Fs17 (by decide)
  show WS k 651 [(5, .int (Int32.ofInt e13)), (0, .ref q1), (1, .ref (A 0)), (2, .ref (A 179)), (3, .ref (A 517)), (4, .int (Int32.ofInt i))] [.int (Int32.ofInt e18)] (Wd A dT s17) (ce + 4) (sl + 24)
  rcases hps12 with cc | cc
  ·
    rcases hps17 with mm | mm
    ·
      have hAP := apj_pnq jPTJ.2.1 cc.2.2.2.2.2.2 mm.2.2 (sam_fm Fs12 (by decide +kernel)) (sam_fm Fs17 (by decide +kernel))
      have rq19 := hAP.1
      have jb20 : PTJ s17 := ⟨JPMJ_s17, hAP.2, JALJ_s17, JMKJ_s17⟩
      refine z_store X (lv' := [(6, .int (Int32.ofInt e18)), (5, .int (Int32.ofInt e13)), (0, .ref q1), (1, .ref (A 0)), (2, .ref (A 179)), (3, .ref (A 517)), (4, .int (Int32.ofInt i))]) rfl (by decide) (fun _ h => h) (z_goto X (t := 1894) rfl rfl (w_widen (ce' := ce + 29) (sl' := sl + 222) (by first | exact Nat.le_add_right _ _ | exact Nat.add_le_add_left (by decide) _ | omega) (by first | exact Nat.le_add_right _ _ | exact Nat.add_le_add_left (by decide) _ | omega) ?_))
      exact WS_lv (lv := [(0, .ref q1), (1, .ref (A 0)), (2, .ref (A 179)), (3, .ref (A 517)), (4, .int (Int32.ofInt i))]) (List.forall_mem_cons.mpr ⟨(List.Mem.tail _ (List.Mem.tail _ (List.Mem.head _))), (List.forall_mem_cons.mpr ⟨(List.Mem.tail _ (List.Mem.tail _ (List.Mem.tail _ (List.Mem.head _)))), (List.forall_mem_cons.mpr ⟨(List.Mem.tail _ (List.Mem.tail _ (List.Mem.tail _ (List.Mem.tail _ (List.Mem.head _))))), (List.forall_mem_cons.mpr ⟨(List.Mem.tail _ (List.Mem.tail _ (List.Mem.tail _ (List.Mem.tail _ (List.Mem.tail _ (List.Mem.head _)))))), (List.forall_mem_cons.mpr ⟨(List.Mem.tail _ (List.Mem.tail _ (List.Mem.tail _ (List.Mem.tail _ (List.Mem.tail _ (List.Mem.tail _ (List.Mem.head _))))))), (fun q h => absurd h List.not_mem_nil)⟩)⟩)⟩)⟩)⟩) (hk A _ Is17 JRLx_s17 JFEQ_s17 JARJ_s17 jb20 (by first | exact oq_f34933ba ws17_89 ws12_89 p1 b8.1 | omega) (by first | exact oq_d7ce4408 ws17_12 ws12_12 p2 | omega) (by first | exact oq_5bcdc35f ws17_74 ws17_0 ws12_74 ws12_0 p3 | omega) (by first | exact oq_5bcdc35f ws17_90 ws17_9 ws12_90 ws12_9 p4 | omega) (by first | exact oq_5bcdc35f ws17_98 ws17_20 ws12_98 ws12_20 p5 | omega))
    ·
      exfalso
      omega
  ·
    rcases hps17 with mm | mm
    ·
      exfalso
      omega
    ·
      have jb21 : PTJ s17 := ⟨JPMJ_s17, aeq_sam jPTJ.2.1 (sam_ts cc.2 (sam_fm Fs17 (by decide +kernel))) (sam_ts (sam_fm Fs12 (by decide +kernel)) mm.2), JALJ_s17, JMKJ_s17⟩
      refine z_store X (lv' := [(6, .int (Int32.ofInt e18)), (5, .int (Int32.ofInt e13)), (0, .ref q1), (1, .ref (A 0)), (2, .ref (A 179)), (3, .ref (A 517)), (4, .int (Int32.ofInt i))]) rfl (by decide) (fun _ h => h) (z_goto X (t := 1894) rfl rfl (w_widen (ce' := ce + 29) (sl' := sl + 222) (by first | exact Nat.le_add_right _ _ | exact Nat.add_le_add_left (by decide) _ | omega) (by first | exact Nat.le_add_right _ _ | exact Nat.add_le_add_left (by decide) _ | omega) ?_))
      exact WS_lv (lv := [(0, .ref q1), (1, .ref (A 0)), (2, .ref (A 179)), (3, .ref (A 517)), (4, .int (Int32.ofInt i))]) (List.forall_mem_cons.mpr ⟨(List.Mem.tail _ (List.Mem.tail _ (List.Mem.head _))), (List.forall_mem_cons.mpr ⟨(List.Mem.tail _ (List.Mem.tail _ (List.Mem.tail _ (List.Mem.head _)))), (List.forall_mem_cons.mpr ⟨(List.Mem.tail _ (List.Mem.tail _ (List.Mem.tail _ (List.Mem.tail _ (List.Mem.head _))))), (List.forall_mem_cons.mpr ⟨(List.Mem.tail _ (List.Mem.tail _ (List.Mem.tail _ (List.Mem.tail _ (List.Mem.tail _ (List.Mem.head _)))))), (List.forall_mem_cons.mpr ⟨(List.Mem.tail _ (List.Mem.tail _ (List.Mem.tail _ (List.Mem.tail _ (List.Mem.tail _ (List.Mem.tail _ (List.Mem.head _))))))), (fun q h => absurd h List.not_mem_nil)⟩)⟩)⟩)⟩)⟩) (hk A _ Is17 JRLx_s17 JFEQ_s17 JARJ_s17 jb21 (by first | exact oq_f34933ba ws17_89 ws12_89 p1 b8.1 | omega) (by first | exact oq_d7ce4408 ws17_12 ws12_12 p2 | omega) (by first | exact oq_5bcdc35f ws17_74 ws17_0 ws12_74 ws12_0 p3 | omega) (by first | exact oq_5bcdc35f ws17_90 ws17_9 ws12_90 ws12_9 p4 | omega) (by first | exact oq_5bcdc35f ws17_98 ws17_20 ws12_98 ws12_20 p5 | omega))
theorem lc_10 (G : GX l s0 D tys a0 dT) (GR : RS0 s0) (SF : SF0 s0) (GT : TXs0 s0) (GW : TXw0 s0) {k : kx_T} (X : AX k 350 dT) (E : kL k = l ∧ kS0 k = s0 ∧ kD k = D ∧ kR k = room_1) {q1 L : Nat} {xs : Nat → Int32} (S : SX k q1 L xs) (hL : L ≤ 3072) (I : Bd s) (jR : RLx s) (jFEQ : FEQ s) (jARJ : ARJ s) (jPTJ : PTJ s) (p1 : iI s 89 = 1) (p2 : iI s 12 ≤ 8) (p3 : iI s 0 = iI s 74) (p4 : iI s 9 = iI s 90) (p5 : iI s 20 = iI s 98) {i : Int} (hi : 0 ≤ i ∧ i + 6 ≤ (L : Int)) {ce sl : Nat} (hce : ce + 29 ≤ 601024) (hsl : sl + 222 ≤ 7293034) (hk : ∀ (A : Nat → Nat) (t : PS), Bd t → RLx t → FEQ t → ARJ t → PTJ t → iI t 89 = 1 → iI t 12 ≤ 8 → iI t 0 = iI t 74 → iI t 9 = iI t 90 → iI t 20 = iI t 98 → WS k 1894 [(0, .ref q1), (1, .ref (A 0)), (2, .ref (A 179)), (3, .ref (A 517)), (4, .int (Int32.ofInt i))] [] (Wd A dT t) (ce + 29) (sl + 222)) : WS k 656 [(0, .ref q1), (1, .ref (A 0)), (2, .ref (A 179)), (3, .ref (A 517)), (4, .int (Int32.ofInt i))] [] (Wd A dT s) ce sl := by
  have F : Fm [73] [24, 1460, 229] s s := fm_rf _ _ s
  have b1 := bi_0 I
  have b2 := bi_74 I
  have b3 := bi_9 I
  have b4 := bi_90 I
  have b5 := bi_20 I
  have b6 := bi_98 I
  have b7 := bi_12 I
  have b8 := bi_89 I
  refine z_aload_n X (x := A 0) rfl (List.Mem.tail _ (List.Mem.head _)) (z_aload_n X (x := q1) rfl (List.Mem.head _) (z_load X (x := i) rfl (List.Mem.tail _ (List.Mem.tail _ (List.Mem.tail _ (List.Mem.tail _ (List.Mem.head _))))) (z_const X rfl (z_add X rfl (z_sld X S hL rfl (show 0 ≤ (i + 1) ∧ (i + 1) < (L : Int) by first | exact sx_in hi (by decide) | omega) ?_)))))
  have sr9 : rng (sc xs (i + 1)) := sc_rng
  refine z_aload_n X (x := q1) rfl (List.Mem.head _) (z_load X (x := i) rfl (List.Mem.tail _ (List.Mem.tail _ (List.Mem.tail _ (List.Mem.tail _ (List.Mem.head _))))) (z_const X rfl (z_add X rfl (z_sld X S hL rfl (show 0 ≤ (i + 2) ∧ (i + 2) < (L : Int) by first | exact sx_in hi (by decide) | omega) ?_))))
  have sr10 : rng (sc xs (i + 2)) := sc_rng
  refine z_aload_n X (x := A 517) rfl (List.Mem.tail _ (List.Mem.tail _ (List.Mem.tail _ (List.Mem.head _)))) (z_callL X (rm := rmN 322) (As := [.ref (A 0), .int (Int32.ofInt (sc xs (i + 1))), .int (Int32.ofInt (sc xs (i + 2))), .ref (A 517)]) (st := []) rfl (by decide) rfl (by rw [E.1, E.2.1, E.2.2.1]; exact lw_limit2 G I (by omega) (by omega)) ⟨by rw [E.2.2.2]; exact (show 9 + 1 ≤ 2048 by decide), by rw [E.2.2.2]; exact (show 8 + (5 + 11) + 167 ≤ 84000 by decide), by rw [E.2.2.2]; exact (show ce + 2 ≤ 601024 by first | exact rmo_1 hce (by decide) | exact rmo_2 hce (by decide) | omega), by rw [E.2.2.2]; exact (show sl + 12 ≤ 7293034 by first | exact rmo_1 hsl (by decide) | exact rmo_2 hsl (by decide) | omega)⟩ (Nat.le_of_ble_eq_true rfl) (fun vv A s11 hA2 hq => ?_) (fun ee A s11 hA2 hq => ?_))
  rotate_left
  · obtain ⟨Is11, Fs11, e12, hv, hrs11, hps11⟩ := hq; cases hv
  obtain ⟨Is11, Fs11, e12, hv, hrs11, hps11⟩ := hq
  cases hv
  rw [← hA2 0 (by decide)]
  rw [← hA2 179 (by decide)]
  rw [← hA2 517 (by decide)]
  have JRLx_s11 : RLx s11 := RLx_fm Fs11 (by decide) jR
  have JFEQ_s11 : FEQ s11 := FEQ_fm Fs11 (by decide) jFEQ
  have JARJ_s11 : ARJ s11 := ARJ_fm Fs11 ⟨by decide +kernel, by decide +kernel, by decide +kernel, by decide +kernel, by decide +kernel, by decide +kernel, by decide +kernel, by decide +kernel⟩ jARJ
  have JPMJ_s11 : PMJ s11 := PMJ_fm Fs11 (by decide +kernel) jPTJ.1
  have JAPJ_s11 : AEQ 21 228 128 s11 := APJ_fm Fs11 (by decide) jPTJ.2.1
  have JMKJ_s11 : MKJ s11 := MKJ_fm Fs11 (by decide +kernel) jPTJ.2.2.2
  have ws11_0 : iI s11 0 = iI s 0 := fm_iq Fs11 rfl
  have ws11_74 : iI s11 74 = iI s 74 := fm_iq Fs11 rfl
  have ws11_9 : iI s11 9 = iI s 9 := fm_iq Fs11 rfl
  have ws11_90 : iI s11 90 = iI s 90 := fm_iq Fs11 rfl
  have ws11_20 : iI s11 20 = iI s 20 := fm_iq Fs11 rfl
  have ws11_98 : iI s11 98 = iI s 98 := fm_iq Fs11 rfl
  have ws11_12 : iI s11 12 = iI s 12 := fm_iq Fs11 rfl
  have ws11_89 : iI s11 89 = iI s 89 := fm_iq Fs11 rfl
  show WS k 673 [(0, .ref q1), (1, .ref (A 0)), (2, .ref (A 179)), (3, .ref (A 517)), (4, .int (Int32.ofInt i))] [.int (Int32.ofInt e12)] (Wd A dT s11) (ce + 2) (sl + 12)
  refine z_store X (lv' := [(5, .int (Int32.ofInt e12)), (0, .ref q1), (1, .ref (A 0)), (2, .ref (A 179)), (3, .ref (A 517)), (4, .int (Int32.ofInt i))]) rfl (by decide) (fun _ h => h) (z_aload_n X (x := A 179) rfl (List.Mem.tail _ (List.Mem.tail _ (List.Mem.tail _ (List.Mem.head _)))) (z_aload_n X (x := q1) rfl (List.Mem.tail _ (List.Mem.head _)) (z_load X (x := i) rfl (List.Mem.tail _ (List.Mem.tail _ (List.Mem.tail _ (List.Mem.tail _ (List.Mem.tail _ (List.Mem.head _)))))) (z_const X rfl (z_add X rfl (z_sld X S hL rfl (show 0 ≤ (i + 1) ∧ (i + 1) < (L : Int) by first | exact sx_in hi (by decide) | omega) ?_))))))
  have sr13 : rng (sc xs (i + 1)) := sc_rng
  refine z_aload_n X (x := q1) rfl (List.Mem.tail _ (List.Mem.head _)) (z_load X (x := i) rfl (List.Mem.tail _ (List.Mem.tail _ (List.Mem.tail _ (List.Mem.tail _ (List.Mem.tail _ (List.Mem.head _)))))) (z_const X rfl (z_add X rfl (z_sld X S hL rfl (show 0 ≤ (i + 2) ∧ (i + 2) < (L : Int) by first | exact sx_in hi (by decide) | omega) ?_))))
  have sr14 : rng (sc xs (i + 2)) := sc_rng
  refine z_callV X 179 (rm := rmN 236) (As := [.int (Int32.ofInt (sc xs (i + 1))), .int (Int32.ofInt (sc xs (i + 2)))]) (st := []) rfl rfl (by decide) rfl (by rw [E.1, E.2.1, E.2.2.1]; exact k_limit2 G Is11 (by first | exact ⟨sr13.1, sr13.2⟩ | omega) (by first | exact ⟨sr14.1, sr14.2⟩ | omega)) ⟨by rw [E.2.2.2]; exact (show 7 + 1 ≤ 2048 from oq_4e6106eb), by rw [E.2.2.2]; exact (show 8 + (4 + 11) + 122 ≤ 84000 from oq_ebbf79c1), by rw [E.2.2.2]; exact (show (ce + 2) + 0 ≤ 601024 by first | (clear hps11; omega) | omega), by rw [E.2.2.2]; exact (show (sl + 12) + 0 ≤ 7293034 by first | (clear hps11; omega) | omega)⟩ (Nat.le_of_ble_eq_true rfl) (fun vv s15 hq => ?_) (fun ee s15 hq => ?_)
  rotate_left
  · obtain ⟨Is15, Fs15, e16, hv, hrs15, hps15⟩ := hq; cases hv
  obtain ⟨Is15, Fs15, e16, hv, hrs15, hps15⟩ := hq
  cases hv
  have JRLx_s15 : RLx s15 := RLx_fm Fs15 (by decide) JRLx_s11
  have JFEQ_s15 : FEQ s15 := FEQ_fm Fs15 (by decide) JFEQ_s11
  have JARJ_s15 : ARJ s15 := ARJ_fm Fs15 ⟨by decide +kernel, by decide +kernel, by decide +kernel, by decide +kernel, by decide +kernel, by decide +kernel, by decide +kernel, by decide +kernel⟩ JARJ_s11
  have JPMJ_s15 : PMJ s15 := PMJ_fm Fs15 (by decide +kernel) JPMJ_s11
  have JAPJ_s15 : AEQ 21 228 128 s15 := APJ_fm Fs15 (by decide) JAPJ_s11
  have JMKJ_s15 : MKJ s15 := MKJ_fm Fs15 (by decide +kernel) JMKJ_s11
  have ws15_0 : iI s15 0 = iI s11 0 := fm_iq Fs15 rfl
  have ws15_74 : iI s15 74 = iI s11 74 := fm_iq Fs15 rfl
  have ws15_9 : iI s15 9 = iI s11 9 := fm_iq Fs15 rfl
  have ws15_90 : iI s15 90 = iI s11 90 := fm_iq Fs15 rfl
  have ws15_20 : iI s15 20 = iI s11 20 := fm_iq Fs15 rfl
  have ws15_98 : iI s15 98 = iI s11 98 := fm_iq Fs15 rfl
  have ws15_12 : iI s15 12 = iI s11 12 := fm_iq Fs15 rfl
  have ws15_89 : iI s15 89 = iI s11 89 := fm_iq Fs15 rfl
  have wos15 : iO s15 = iO s11 := fm_o Fs15 (by decide)
  show WS k 691 [(5, .int (Int32.ofInt e12)), (0, .ref q1), (1, .ref (A 0)), (2, .ref (A 179)), (3, .ref (A 517)), (4, .int (Int32.ofInt i))] [.int (Int32.ofInt e16)] (Wd A dT s15) (ce + 2) (sl + 12)
  rcases hps11 with cc | cc
  ·
    rcases hps15 with mm | mm
    ·
      have jb17 : PTJ s15 := ⟨JPMJ_s15, JAPJ_s15, aeq_upd jPTJ.2.2.1 cc.2.2.2.2.2.2 (sam_fm Fs11 (by decide +kernel)) mm.2.2.2.2.2.2 (sam_fm Fs15 (by decide +kernel)), JMKJ_s15⟩
      refine z_store X (lv' := [(6, .int (Int32.ofInt e16)), (5, .int (Int32.ofInt e12)), (0, .ref q1), (1, .ref (A 0)), (2, .ref (A 179)), (3, .ref (A 517)), (4, .int (Int32.ofInt i))]) rfl (by decide) (fun _ h => h) (z_goto X (t := 1894) rfl rfl (w_widen (ce' := ce + 29) (sl' := sl + 222) (by first | exact Nat.le_add_right _ _ | exact Nat.add_le_add_left (by decide) _ | omega) (by first | exact Nat.le_add_right _ _ | exact Nat.add_le_add_left (by decide) _ | omega) ?_))
      exact WS_lv (lv := [(0, .ref q1), (1, .ref (A 0)), (2, .ref (A 179)), (3, .ref (A 517)), (4, .int (Int32.ofInt i))]) (List.forall_mem_cons.mpr ⟨(List.Mem.tail _ (List.Mem.tail _ (List.Mem.head _))), (List.forall_mem_cons.mpr ⟨(List.Mem.tail _ (List.Mem.tail _ (List.Mem.tail _ (List.Mem.head _)))), (List.forall_mem_cons.mpr ⟨(List.Mem.tail _ (List.Mem.tail _ (List.Mem.tail _ (List.Mem.tail _ (List.Mem.head _))))), (List.forall_mem_cons.mpr ⟨(List.Mem.tail _ (List.Mem.tail _ (List.Mem.tail _ (List.Mem.tail _ (List.Mem.tail _ (List.Mem.head _)))))), (List.forall_mem_cons.mpr ⟨(List.Mem.tail _ (List.Mem.tail _ (List.Mem.tail _ (List.Mem.tail _ (List.Mem.tail _ (List.Mem.tail _ (List.Mem.head _))))))), (fun q h => absurd h List.not_mem_nil)⟩)⟩)⟩)⟩)⟩) (hk A _ Is15 JRLx_s15 JFEQ_s15 JARJ_s15 jb17 (by first | exact oq_f34933ba ws15_89 ws11_89 p1 b8.1 | omega) (by first | exact oq_d7ce4408 ws15_12 ws11_12 p2 | omega) (by first | exact oq_5bcdc35f ws15_74 ws15_0 ws11_74 ws11_0 p3 | omega) (by first | exact oq_5bcdc35f ws15_90 ws15_9 ws11_90 ws11_9 p4 | omega) (by first | exact oq_5bcdc35f ws15_98 ws15_20 ws11_98 ws11_20 p5 | omega))
    ·
      exfalso
      omega
  ·
    rcases hps15 with mm | mm
    ·
      exfalso
      omega
    ·
      have jb18 : PTJ s15 := ⟨JPMJ_s15, JAPJ_s15, aeq_sam jPTJ.2.2.1 (sam_ts cc.2.2 (sam_fm Fs15 (by decide +kernel))) (sam_ts (sam_fm Fs11 (by decide +kernel)) mm.2.2), JMKJ_s15⟩
      refine z_store X (lv' := [(6, .int (Int32.ofInt e16)), (5, .int (Int32.ofInt e12)), (0, .ref q1), (1, .ref (A 0)), (2, .ref (A 179)), (3, .ref (A 517)), (4, .int (Int32.ofInt i))]) rfl (by decide) (fun _ h => h) (z_goto X (t := 1894) rfl rfl (w_widen (ce' := ce + 29) (sl' := sl + 222) (by first | exact Nat.le_add_right _ _ | exact Nat.add_le_add_left (by decide) _ | omega) (by first | exact Nat.le_add_right _ _ | exact Nat.add_le_add_left (by decide) _ | omega) ?_))
      exact WS_lv (lv := [(0, .ref q1), (1, .ref (A 0)), (2, .ref (A 179)), (3, .ref (A 517)), (4, .int (Int32.ofInt i))]) (List.forall_mem_cons.mpr ⟨(List.Mem.tail _ (List.Mem.tail _ (List.Mem.head _))), (List.forall_mem_cons.mpr ⟨(List.Mem.tail _ (List.Mem.tail _ (List.Mem.tail _ (List.Mem.head _)))), (List.forall_mem_cons.mpr ⟨(List.Mem.tail _ (List.Mem.tail _ (List.Mem.tail _ (List.Mem.tail _ (List.Mem.head _))))), (List.forall_mem_cons.mpr ⟨(List.Mem.tail _ (List.Mem.tail _ (List.Mem.tail _ (List.Mem.tail _ (List.Mem.tail _ (List.Mem.head _)))))), (List.forall_mem_cons.mpr ⟨(List.Mem.tail _ (List.Mem.tail _ (List.Mem.tail _ (List.Mem.tail _ (List.Mem.tail _ (List.Mem.tail _ (List.Mem.head _))))))), (fun q h => absurd h List.not_mem_nil)⟩)⟩)⟩)⟩)⟩) (hk A _ Is15 JRLx_s15 JFEQ_s15 JARJ_s15 jb18 (by first | exact oq_f34933ba ws15_89 ws11_89 p1 b8.1 | omega) (by first | exact oq_d7ce4408 ws15_12 ws11_12 p2 | omega) (by first | exact oq_5bcdc35f ws15_74 ws15_0 ws11_74 ws11_0 p3 | omega) (by first | exact oq_5bcdc35f ws15_90 ws15_9 ws11_90 ws11_9 p4 | omega) (by first | exact oq_5bcdc35f ws15_98 ws15_20 ws11_98 ws11_20 p5 | omega))
theorem lc_11 (G : GX l s0 D tys a0 dT) (GR : RS0 s0) (SF : SF0 s0) (GT : TXs0 s0) (GW : TXw0 s0) {k : kx_T} (X : AX k 350 dT) (E : kL k = l ∧ kS0 k = s0 ∧ kD k = D ∧ kR k = room_1) {q1 L : Nat} {xs : Nat → Int32} (S : SX k q1 L xs) (hL : L ≤ 3072) (I : Bd s) (jR : RLx s) (jFEQ : FEQ s) (jARJ : ARJ s) (jPTJ : PTJ s) (p1 : iI s 89 = 1) (p2 : iI s 12 ≤ 8) (p3 : iI s 0 = iI s 74) (p4 : iI s 9 = iI s 90) (p5 : iI s 20 = iI s 98) {i : Int} (hi : 0 ≤ i ∧ i + 6 ≤ (L : Int)) {ce sl : Nat} (hce : ce + 29 ≤ 601024) (hsl : sl + 222 ≤ 7293034) (hk : ∀ (A : Nat → Nat) (t : PS), Bd t → RLx t → FEQ t → ARJ t → PTJ t → iI t 89 = 1 → iI t 12 ≤ 8 → iI t 0 = iI t 74 → iI t 9 = iI t 90 → iI t 20 = iI t 98 → WS k 1894 [(0, .ref q1), (1, .ref (A 0)), (2, .ref (A 179)), (3, .ref (A 517)), (4, .int (Int32.ofInt i))] [] (Wd A dT t) (ce + 29) (sl + 222)) : WS k 696 [(0, .ref q1), (1, .ref (A 0)), (2, .ref (A 179)), (3, .ref (A 517)), (4, .int (Int32.ofInt i))] [] (Wd A dT s) ce sl := by
  have F : Fm [22, 23, 73, 77, 75, 78, 79, 80, 81] [33, 26, 27, 28, 29, 30, 31, 32, 20, 1460, 161, 202, 203, 204, 205, 206, 207, 208, 209, 210, 211, 212, 213, 214, 215, 216, 217, 218, 219, 220, 221, 222, 223, 224, 225, 226, 227, 230] s s := fm_rf _ _ s
  have b1 := bi_0 I
  have b2 := bi_74 I
  have b3 := bi_9 I
  have b4 := bi_90 I
  have b5 := bi_20 I
  have b6 := bi_98 I
  have b7 := bi_12 I
  have b8 := bi_89 I
  refine z_aload_n X (x := A 0) rfl (List.Mem.tail _ (List.Mem.head _)) (z_aload_n X (x := q1) rfl (List.Mem.head _) (z_load X (x := i) rfl (List.Mem.tail _ (List.Mem.tail _ (List.Mem.tail _ (List.Mem.tail _ (List.Mem.head _))))) (z_const X rfl (z_add X rfl (z_sld X S hL rfl (show 0 ≤ (i + 1) ∧ (i + 1) < (L : Int) by first | exact sx_in hi (by decide) | omega) ?_)))))
  have sr9 : rng (sc xs (i + 1)) := sc_rng
  refine z_aload_n X (x := q1) rfl (List.Mem.head _) (z_load X (x := i) rfl (List.Mem.tail _ (List.Mem.tail _ (List.Mem.tail _ (List.Mem.tail _ (List.Mem.head _))))) (z_const X rfl (z_add X rfl (z_sld X S hL rfl (show 0 ≤ (i + 2) ∧ (i + 2) < (L : Int) by first | exact sx_in hi (by decide) | omega) ?_))))
  have sr10 : rng (sc xs (i + 2)) := sc_rng
  refine z_aload_n X (x := q1) rfl (List.Mem.head _) (z_load X (x := i) rfl (List.Mem.tail _ (List.Mem.tail _ (List.Mem.tail _ (List.Mem.tail _ (List.Mem.head _))))) (z_const X rfl (z_add X rfl (z_sld X S hL rfl (show 0 ≤ (i + 3) ∧ (i + 3) < (L : Int) by first | exact sx_in hi (by decide) | omega) ?_))))
  have sr11 : rng (sc xs (i + 3)) := sc_rng
  refine z_aload_n X (x := A 517) rfl (List.Mem.tail _ (List.Mem.tail _ (List.Mem.tail _ (List.Mem.head _)))) ?_
  obtain ⟨U, hU1, hU2, hU3⟩ := air_U jARJ.2.2.2.2.2.1 jARJ.1 jARJ.2.1 jARJ.2.2.1 jARJ.2.2.2.2.1 jARJ.2.2.2.2.2.2.2 (by omega) (by omega)
  refine z_callL X (rm := rmN 323) (As := [.ref (A 0), .int (Int32.ofInt (sc xs (i + 1))), .int (Int32.ofInt (sc xs (i + 2))), .int (Int32.ofInt (sc xs (i + 3))), .ref (A 517)]) (st := []) rfl (by decide) rfl (by rw [E.1, E.2.1, E.2.2.1]; exact lw_hears6 G I jARJ.2.2.2.2.2.1 jARJ.2.2.2.2.2.2.1 hU1 jPTJ.1 (by omega) (by omega) (by omega)) ⟨by rw [E.2.2.2]; exact (show 11 + 1 ≤ 2048 by decide), by rw [E.2.2.2]; exact (show 8 + (6 + 11) + 229 ≤ 84000 by decide), by rw [E.2.2.2]; exact (show ce + 3 ≤ 601024 by first | exact rmo_1 hce (by decide) | exact rmo_2 hce (by decide) | omega), by rw [E.2.2.2]; exact (show sl + 18 ≤ 7293034 by first | exact rmo_1 hsl (by decide) | exact rmo_2 hsl (by decide) | omega)⟩ (Nat.le_of_ble_eq_true rfl) (fun vv A s12 hA2 hq => ?_) (fun ee A s12 hA2 hq => ?_)
  rotate_left
  · obtain ⟨Is12, Fs12, e13, hv, hrs12, hps12⟩ := hq; cases hv
  obtain ⟨Is12, Fs12, e13, hv, hrs12, hps12⟩ := hq
  cases hv
  rw [← hA2 0 (by decide)]
  rw [← hA2 179 (by decide)]
  rw [← hA2 517 (by decide)]
  have JRLx_s12 : RLx s12 := RLx_fm Fs12 (by decide) jR
  have JFEQ_s12 : FEQ s12 := FEQ_fm Fs12 (by decide) jFEQ
  have JARJ_s12 : ARJ s12 := ARJ_fm Fs12 ⟨by decide +kernel, by decide +kernel, by decide +kernel, by decide +kernel, by decide +kernel, by decide +kernel, by decide +kernel, by decide +kernel⟩ jARJ
  have JPTJ_s12 : PTJ s12 := PTJ_fm Fs12 (by decide +kernel) jPTJ
  have JMDJ_s12 : MDJ U s12 := MDJ_fm Fs12 (by decide +kernel) hU2
  have ws12_0 : iI s12 0 = iI s 0 := fm_iq Fs12 rfl
  have ws12_74 : iI s12 74 = iI s 74 := fm_iq Fs12 rfl
  have ws12_9 : iI s12 9 = iI s 9 := fm_iq Fs12 rfl
  have ws12_90 : iI s12 90 = iI s 90 := fm_iq Fs12 rfl
  have ws12_20 : iI s12 20 = iI s 20 := fm_iq Fs12 rfl
  have ws12_98 : iI s12 98 = iI s 98 := fm_iq Fs12 rfl
  have ws12_12 : iI s12 12 = iI s 12 := fm_iq Fs12 rfl
  have ws12_89 : iI s12 89 = iI s 89 := fm_iq Fs12 rfl
  show WS k 719 [(0, .ref q1), (1, .ref (A 0)), (2, .ref (A 179)), (3, .ref (A 517)), (4, .int (Int32.ofInt i))] [.int (Int32.ofInt e13)] (Wd A dT s12) (ce + 3) (sl + 18)
  refine z_store X (lv' := [(5, .int (Int32.ofInt e13)), (0, .ref q1), (1, .ref (A 0)), (2, .ref (A 179)), (3, .ref (A 517)), (4, .int (Int32.ofInt i))]) rfl (by decide) (fun _ h => h) (z_aload_n X (x := A 179) rfl (List.Mem.tail _ (List.Mem.tail _ (List.Mem.tail _ (List.Mem.head _)))) (z_aload_n X (x := q1) rfl (List.Mem.tail _ (List.Mem.head _)) (z_load X (x := i) rfl (List.Mem.tail _ (List.Mem.tail _ (List.Mem.tail _ (List.Mem.tail _ (List.Mem.tail _ (List.Mem.head _)))))) (z_const X rfl (z_add X rfl (z_sld X S hL rfl (show 0 ≤ (i + 1) ∧ (i + 1) < (L : Int) by first | exact sx_in hi (by decide) | omega) ?_))))))
  have sr14 : rng (sc xs (i + 1)) := sc_rng
  refine z_aload_n X (x := q1) rfl (List.Mem.tail _ (List.Mem.head _)) (z_load X (x := i) rfl (List.Mem.tail _ (List.Mem.tail _ (List.Mem.tail _ (List.Mem.tail _ (List.Mem.tail _ (List.Mem.head _)))))) (z_const X rfl (z_add X rfl (z_sld X S hL rfl (show 0 ≤ (i + 2) ∧ (i + 2) < (L : Int) by first | exact sx_in hi (by decide) | omega) ?_))))
  have sr15 : rng (sc xs (i + 2)) := sc_rng
  refine z_aload_n X (x := q1) rfl (List.Mem.tail _ (List.Mem.head _)) (z_load X (x := i) rfl (List.Mem.tail _ (List.Mem.tail _ (List.Mem.tail _ (List.Mem.tail _ (List.Mem.tail _ (List.Mem.head _)))))) (z_const X rfl (z_add X rfl (z_sld X S hL rfl (show 0 ≤ (i + 3) ∧ (i + 3) < (L : Int) by first | exact sx_in hi (by decide) | omega) ?_))))
  have sr16 : rng (sc xs (i + 3)) := sc_rng
  refine z_callV X 179 (rm := rmN 237) (As := [.int (Int32.ofInt (sc xs (i + 1))), .int (Int32.ofInt (sc xs (i + 2))), .int (Int32.ofInt (sc xs (i + 3)))]) (st := []) rfl rfl (by decide) rfl (by rw [E.1, E.2.1, E.2.2.1]; exact k_hears6 G Is12 JRLx_s12 JMDJ_s12 (by first | exact ⟨sr14.1, sr14.2⟩ | omega) (by first | exact ⟨sr15.1, sr15.2⟩ | omega) (by first | exact ⟨sr16.1, sr16.2⟩ | omega) (by first | exact oq_b44a1c7f ws12_89 p1 b8.1 | omega)) ⟨by rw [E.2.2.2]; exact (show 37 + 1 ≤ 2048 from oq_2596b3cb), by rw [E.2.2.2]; exact (show 8 + (5 + 11) + 1578 ≤ 84000 from oq_93887b04), by rw [E.2.2.2]; exact (show (ce + 3) + 0 ≤ 601024 by first | (clear hps12; omega) | omega), by rw [E.2.2.2]; exact (show (sl + 18) + 0 ≤ 7293034 by first | (clear hps12; omega) | omega)⟩ (Nat.le_of_ble_eq_true rfl) (fun vv s17 hq => ?_) (fun ee s17 hq => ?_)
  rotate_left
  · obtain ⟨Is17, Fs17, JRLx_s17, e18, hv, hrs17, hps17⟩ := hq; cases hv
  obtain ⟨Is17, Fs17, JRLx_s17, e18, hv, hrs17, hps17⟩ := hq
  cases hv
  have JRLx_s17 : RLx s17 := RLx_fm Fs17 (by decide) JRLx_s12
  have JFEQ_s17 : FEQ s17 := FEQ_fm Fs17 (by decide) JFEQ_s12
  have JARJ_s17 : ARJ s17 := ARJ_fm Fs17 ⟨by decide +kernel, by decide +kernel, by decide +kernel, by decide +kernel, by decide +kernel, by decide +kernel, by decide +kernel, by decide +kernel⟩ JARJ_s12
  have JPTJ_s17 : PTJ s17 := PTJ_fm Fs17 (by decide +kernel) JPTJ_s12
  have ws17_0 : iI s17 0 = iI s12 0 := fm_iq Fs17 rfl
  have ws17_74 : iI s17 74 = iI s12 74 := fm_iq Fs17 rfl
  have ws17_9 : iI s17 9 = iI s12 9 := fm_iq Fs17 rfl
  have ws17_90 : iI s17 90 = iI s12 90 := fm_iq Fs17 rfl
  have ws17_20 : iI s17 20 = iI s12 20 := fm_iq Fs17 rfl
  have ws17_98 : iI s17 98 = iI s12 98 := fm_iq Fs17 rfl
  have ws17_12 : iI s17 12 = iI s12 12 := fm_iq Fs17 rfl
  have ws17_89 : iI s17 89 = iI s12 89 := fm_iq Fs17 rfl
  have wos17 : iO s17 = iO s12 := fm_o Fs17 (by decide)
  show WS k 743 [(5, .int (Int32.ofInt e13)), (0, .ref q1), (1, .ref (A 0)), (2, .ref (A 179)), (3, .ref (A 517)), (4, .int (Int32.ofInt i))] [.int (Int32.ofInt e18)] (Wd A dT s17) (ce + 3) (sl + 18)
  rcases hps12 with cc | cc
  ·
    rcases hps17 with mm | mm
    ·
      have rq19 := hre_eq (fun j hj => (jPTJ.2.1 j hj).trans ((sam_fm Fs12 (by decide +kernel) : SAM 228 _ _) j).symm) cc.2.2.2.2 mm.2.2.2.2
      refine z_store X (lv' := [(6, .int (Int32.ofInt e18)), (5, .int (Int32.ofInt e13)), (0, .ref q1), (1, .ref (A 0)), (2, .ref (A 179)), (3, .ref (A 517)), (4, .int (Int32.ofInt i))]) rfl (by decide) (fun _ h => h) (z_goto X (t := 1894) rfl rfl (w_widen (ce' := ce + 29) (sl' := sl + 222) (by first | exact Nat.le_add_right _ _ | exact Nat.add_le_add_left (by decide) _ | omega) (by first | exact Nat.le_add_right _ _ | exact Nat.add_le_add_left (by decide) _ | omega) ?_))
      exact WS_lv (lv := [(0, .ref q1), (1, .ref (A 0)), (2, .ref (A 179)), (3, .ref (A 517)), (4, .int (Int32.ofInt i))]) (List.forall_mem_cons.mpr ⟨(List.Mem.tail _ (List.Mem.tail _ (List.Mem.head _))), (List.forall_mem_cons.mpr ⟨(List.Mem.tail _ (List.Mem.tail _ (List.Mem.tail _ (List.Mem.head _)))), (List.forall_mem_cons.mpr ⟨(List.Mem.tail _ (List.Mem.tail _ (List.Mem.tail _ (List.Mem.tail _ (List.Mem.head _))))), (List.forall_mem_cons.mpr ⟨(List.Mem.tail _ (List.Mem.tail _ (List.Mem.tail _ (List.Mem.tail _ (List.Mem.tail _ (List.Mem.head _)))))), (List.forall_mem_cons.mpr ⟨(List.Mem.tail _ (List.Mem.tail _ (List.Mem.tail _ (List.Mem.tail _ (List.Mem.tail _ (List.Mem.tail _ (List.Mem.head _))))))), (fun q h => absurd h List.not_mem_nil)⟩)⟩)⟩)⟩)⟩) (hk A _ Is17 JRLx_s17 JFEQ_s17 JARJ_s17 JPTJ_s17 (by first | exact oq_f34933ba ws17_89 ws12_89 p1 b8.1 | omega) (by first | exact oq_d7ce4408 ws17_12 ws12_12 p2 | omega) (by first | exact oq_5bcdc35f ws17_74 ws17_0 ws12_74 ws12_0 p3 | omega) (by first | exact oq_5bcdc35f ws17_90 ws17_9 ws12_90 ws12_9 p4 | omega) (by first | exact oq_5bcdc35f ws17_98 ws17_20 ws12_98 ws12_20 p5 | omega))
    ·
      exfalso
      omega
  ·
    rcases hps17 with mm | mm
    ·
      exfalso
      omega
    ·
      refine z_store X (lv' := [(6, .int (Int32.ofInt e18)), (5, .int (Int32.ofInt e13)), (0, .ref q1), (1, .ref (A 0)), (2, .ref (A 179)), (3, .ref (A 517)), (4, .int (Int32.ofInt i))]) rfl (by decide) (fun _ h => h) (z_goto X (t := 1894) rfl rfl (w_widen (ce' := ce + 29) (sl' := sl + 222) (by first | exact Nat.le_add_right _ _ | exact Nat.add_le_add_left (by decide) _ | omega) (by first | exact Nat.le_add_right _ _ | exact Nat.add_le_add_left (by decide) _ | omega) ?_))
      exact WS_lv (lv := [(0, .ref q1), (1, .ref (A 0)), (2, .ref (A 179)), (3, .ref (A 517)), (4, .int (Int32.ofInt i))]) (List.forall_mem_cons.mpr ⟨(List.Mem.tail _ (List.Mem.tail _ (List.Mem.head _))), (List.forall_mem_cons.mpr ⟨(List.Mem.tail _ (List.Mem.tail _ (List.Mem.tail _ (List.Mem.head _)))), (List.forall_mem_cons.mpr ⟨(List.Mem.tail _ (List.Mem.tail _ (List.Mem.tail _ (List.Mem.tail _ (List.Mem.head _))))), (List.forall_mem_cons.mpr ⟨(List.Mem.tail _ (List.Mem.tail _ (List.Mem.tail _ (List.Mem.tail _ (List.Mem.tail _ (List.Mem.head _)))))), (List.forall_mem_cons.mpr ⟨(List.Mem.tail _ (List.Mem.tail _ (List.Mem.tail _ (List.Mem.tail _ (List.Mem.tail _ (List.Mem.tail _ (List.Mem.head _))))))), (fun q h => absurd h List.not_mem_nil)⟩)⟩)⟩)⟩)⟩) (hk A _ Is17 JRLx_s17 JFEQ_s17 JARJ_s17 JPTJ_s17 (by first | exact oq_f34933ba ws17_89 ws12_89 p1 b8.1 | omega) (by first | exact oq_d7ce4408 ws17_12 ws12_12 p2 | omega) (by first | exact oq_5bcdc35f ws17_74 ws17_0 ws12_74 ws12_0 p3 | omega) (by first | exact oq_5bcdc35f ws17_90 ws17_9 ws12_90 ws12_9 p4 | omega) (by first | exact oq_5bcdc35f ws17_98 ws17_20 ws12_98 ws12_20 p5 | omega))
theorem lc_12 (G : GX l s0 D tys a0 dT) (GR : RS0 s0) (SF : SF0 s0) (GT : TXs0 s0) (GW : TXw0 s0) {k : kx_T} (X : AX k 350 dT) (E : kL k = l ∧ kS0 k = s0 ∧ kD k = D ∧ kR k = room_1) {q1 L : Nat} {xs : Nat → Int32} (S : SX k q1 L xs) (hL : L ≤ 3072) (I : Bd s) (jR : RLx s) (jFEQ : FEQ s) (jARJ : ARJ s) (jPTJ : PTJ s) (p1 : iI s 89 = 1) (p2 : iI s 12 ≤ 8) (p3 : iI s 0 = iI s 74) (p4 : iI s 9 = iI s 90) (p5 : iI s 20 = iI s 98) {i : Int} (hi : 0 ≤ i ∧ i + 6 ≤ (L : Int)) {ce sl : Nat} (hce : ce + 29 ≤ 601024) (hsl : sl + 222 ≤ 7293034) (hk : ∀ (A : Nat → Nat) (t : PS), Bd t → RLx t → FEQ t → ARJ t → PTJ t → iI t 89 = 1 → iI t 12 ≤ 8 → iI t 0 = iI t 74 → iI t 9 = iI t 90 → iI t 20 = iI t 98 → WS k 1894 [(0, .ref q1), (1, .ref (A 0)), (2, .ref (A 179)), (3, .ref (A 517)), (4, .int (Int32.ofInt i))] [] (Wd A dT t) (ce + 29) (sl + 222)) : WS k 748 [(0, .ref q1), (1, .ref (A 0)), (2, .ref (A 179)), (3, .ref (A 517)), (4, .int (Int32.ofInt i))] [] (Wd A dT s) ce sl := by
  have F : Fm [22, 23, 24, 73, 77, 75, 78, 79, 80, 81] [33, 26, 27, 28, 29, 30, 31, 32, 20, 1460, 161, 202, 203, 204, 205, 206, 207, 208, 209, 210, 211, 212, 213, 214, 215, 216, 217, 218, 219, 220, 221, 222, 223, 224, 225, 226, 227, 230] s s := fm_rf _ _ s
  have b1 := bi_0 I
  have b2 := bi_74 I
  have b3 := bi_9 I
  have b4 := bi_90 I
  have b5 := bi_20 I
  have b6 := bi_98 I
  have b7 := bi_12 I
  have b8 := bi_89 I
  refine z_aload_n X (x := A 0) rfl (List.Mem.tail _ (List.Mem.head _)) (z_aload_n X (x := q1) rfl (List.Mem.head _) (z_load X (x := i) rfl (List.Mem.tail _ (List.Mem.tail _ (List.Mem.tail _ (List.Mem.tail _ (List.Mem.head _))))) (z_const X rfl (z_add X rfl (z_sld X S hL rfl (show 0 ≤ (i + 1) ∧ (i + 1) < (L : Int) by first | exact sx_in hi (by decide) | omega) ?_)))))
  have sr9 : rng (sc xs (i + 1)) := sc_rng
  refine z_aload_n X (x := q1) rfl (List.Mem.head _) (z_load X (x := i) rfl (List.Mem.tail _ (List.Mem.tail _ (List.Mem.tail _ (List.Mem.tail _ (List.Mem.head _))))) (z_const X rfl (z_add X rfl (z_sld X S hL rfl (show 0 ≤ (i + 2) ∧ (i + 2) < (L : Int) by first | exact sx_in hi (by decide) | omega) ?_))))
  have sr10 : rng (sc xs (i + 2)) := sc_rng
  refine z_aload_n X (x := A 517) rfl (List.Mem.tail _ (List.Mem.tail _ (List.Mem.tail _ (List.Mem.head _)))) ?_
  obtain ⟨U, hU1, hU2, hU3⟩ := air_U jARJ.2.2.2.2.2.1 jARJ.1 jARJ.2.1 jARJ.2.2.1 jARJ.2.2.2.2.1 jARJ.2.2.2.2.2.2.2 (by omega) (by omega)
  refine z_callL X (rm := rmN 324) (As := [.ref (A 0), .int (Int32.ofInt (sc xs (i + 1))), .int (Int32.ofInt (sc xs (i + 2))), .ref (A 517)]) (st := []) rfl (by decide) rfl (by rw [E.1, E.2.1, E.2.2.1]; exact lw_peak6 G I jARJ.2.2.2.2.2.1 jARJ.2.2.2.2.2.2.1 hU1 jPTJ.1 (by omega) (by omega)) ⟨by rw [E.2.2.2]; exact (show 11 + 1 ≤ 2048 by decide), by rw [E.2.2.2]; exact (show 8 + (5 + 11) + 228 ≤ 84000 by decide), by rw [E.2.2.2]; exact (show ce + 2 ≤ 601024 by first | exact rmo_1 hce (by decide) | exact rmo_2 hce (by decide) | omega), by rw [E.2.2.2]; exact (show sl + 12 ≤ 7293034 by first | exact rmo_1 hsl (by decide) | exact rmo_2 hsl (by decide) | omega)⟩ (Nat.le_of_ble_eq_true rfl) (fun vv A s11 hA2 hq => ?_) (fun ee A s11 hA2 hq => ?_)
  rotate_left
  · obtain ⟨Is11, Fs11, e12, hv, hrs11, hps11⟩ := hq; cases hv
  obtain ⟨Is11, Fs11, e12, hv, hrs11, hps11⟩ := hq
  cases hv
  rw [← hA2 0 (by decide)]
  rw [← hA2 179 (by decide)]
  rw [← hA2 517 (by decide)]
  have JRLx_s11 : RLx s11 := RLx_fm Fs11 (by decide) jR
  have JFEQ_s11 : FEQ s11 := FEQ_fm Fs11 (by decide) jFEQ
  have JARJ_s11 : ARJ s11 := ARJ_fm Fs11 ⟨by decide +kernel, by decide +kernel, by decide +kernel, by decide +kernel, by decide +kernel, by decide +kernel, by decide +kernel, by decide +kernel⟩ jARJ
  have JPTJ_s11 : PTJ s11 := PTJ_fm Fs11 (by decide +kernel) jPTJ
  have JMDJ_s11 : MDJ U s11 := MDJ_fm Fs11 (by decide +kernel) hU2
  have ws11_0 : iI s11 0 = iI s 0 := fm_iq Fs11 rfl
  have ws11_74 : iI s11 74 = iI s 74 := fm_iq Fs11 rfl
  have ws11_9 : iI s11 9 = iI s 9 := fm_iq Fs11 rfl
  have ws11_90 : iI s11 90 = iI s 90 := fm_iq Fs11 rfl
  have ws11_20 : iI s11 20 = iI s 20 := fm_iq Fs11 rfl
  have ws11_98 : iI s11 98 = iI s 98 := fm_iq Fs11 rfl
  have ws11_12 : iI s11 12 = iI s 12 := fm_iq Fs11 rfl
  have ws11_89 : iI s11 89 = iI s 89 := fm_iq Fs11 rfl
  show WS k 765 [(0, .ref q1), (1, .ref (A 0)), (2, .ref (A 179)), (3, .ref (A 517)), (4, .int (Int32.ofInt i))] [.int (Int32.ofInt e12)] (Wd A dT s11) (ce + 2) (sl + 12)
  refine z_store X (lv' := [(5, .int (Int32.ofInt e12)), (0, .ref q1), (1, .ref (A 0)), (2, .ref (A 179)), (3, .ref (A 517)), (4, .int (Int32.ofInt i))]) rfl (by decide) (fun _ h => h) (z_aload_n X (x := A 179) rfl (List.Mem.tail _ (List.Mem.tail _ (List.Mem.tail _ (List.Mem.head _)))) (z_aload_n X (x := q1) rfl (List.Mem.tail _ (List.Mem.head _)) (z_load X (x := i) rfl (List.Mem.tail _ (List.Mem.tail _ (List.Mem.tail _ (List.Mem.tail _ (List.Mem.tail _ (List.Mem.head _)))))) (z_const X rfl (z_add X rfl (z_sld X S hL rfl (show 0 ≤ (i + 1) ∧ (i + 1) < (L : Int) by first | exact sx_in hi (by decide) | omega) ?_))))))
  have sr13 : rng (sc xs (i + 1)) := sc_rng
  refine z_aload_n X (x := q1) rfl (List.Mem.tail _ (List.Mem.head _)) (z_load X (x := i) rfl (List.Mem.tail _ (List.Mem.tail _ (List.Mem.tail _ (List.Mem.tail _ (List.Mem.tail _ (List.Mem.head _)))))) (z_const X rfl (z_add X rfl (z_sld X S hL rfl (show 0 ≤ (i + 2) ∧ (i + 2) < (L : Int) by first | exact sx_in hi (by decide) | omega) ?_))))
  have sr14 : rng (sc xs (i + 2)) := sc_rng
  refine z_callV X 179 (rm := rmN 238) (As := [.int (Int32.ofInt (sc xs (i + 1))), .int (Int32.ofInt (sc xs (i + 2)))]) (st := []) rfl rfl (by decide) rfl (by rw [E.1, E.2.1, E.2.2.1]; exact k_peak6 G Is11 JRLx_s11 JMDJ_s11 (by first | exact ⟨sr13.1, sr13.2⟩ | omega) (by first | exact ⟨sr14.1, sr14.2⟩ | omega) (by first | exact oq_b44a1c7f ws11_89 p1 b8.1 | omega)) ⟨by rw [E.2.2.2]; exact (show 39 + 1 ≤ 2048 from oq_dead3895), by rw [E.2.2.2]; exact (show 8 + (5 + 11) + 1622 ≤ 84000 from oq_16841511), by rw [E.2.2.2]; exact (show (ce + 2) + 0 ≤ 601024 by first | (clear hps11; omega) | omega), by rw [E.2.2.2]; exact (show (sl + 12) + 0 ≤ 7293034 by first | (clear hps11; omega) | omega)⟩ (Nat.le_of_ble_eq_true rfl) (fun vv s15 hq => ?_) (fun ee s15 hq => ?_)
  rotate_left
  · obtain ⟨Is15, Fs15, JRLx_s15, e16, hv, hrs15, hps15⟩ := hq; cases hv
  obtain ⟨Is15, Fs15, JRLx_s15, e16, hv, hrs15, hps15⟩ := hq
  cases hv
  have JRLx_s15 : RLx s15 := RLx_fm Fs15 (by decide) JRLx_s11
  have JFEQ_s15 : FEQ s15 := FEQ_fm Fs15 (by decide) JFEQ_s11
  have JARJ_s15 : ARJ s15 := ARJ_fm Fs15 ⟨by decide +kernel, by decide +kernel, by decide +kernel, by decide +kernel, by decide +kernel, by decide +kernel, by decide +kernel, by decide +kernel⟩ JARJ_s11
  have JPTJ_s15 : PTJ s15 := PTJ_fm Fs15 (by decide +kernel) JPTJ_s11
  have ws15_0 : iI s15 0 = iI s11 0 := fm_iq Fs15 rfl
  have ws15_74 : iI s15 74 = iI s11 74 := fm_iq Fs15 rfl
  have ws15_9 : iI s15 9 = iI s11 9 := fm_iq Fs15 rfl
  have ws15_90 : iI s15 90 = iI s11 90 := fm_iq Fs15 rfl
  have ws15_20 : iI s15 20 = iI s11 20 := fm_iq Fs15 rfl
  have ws15_98 : iI s15 98 = iI s11 98 := fm_iq Fs15 rfl
  have ws15_12 : iI s15 12 = iI s11 12 := fm_iq Fs15 rfl
  have ws15_89 : iI s15 89 = iI s11 89 := fm_iq Fs15 rfl
  have wos15 : iO s15 = iO s11 := fm_o Fs15 (by decide)
  show WS k 783 [(5, .int (Int32.ofInt e12)), (0, .ref q1), (1, .ref (A 0)), (2, .ref (A 179)), (3, .ref (A 517)), (4, .int (Int32.ofInt i))] [.int (Int32.ofInt e16)] (Wd A dT s15) (ce + 2) (sl + 12)
  rcases hps11 with cc | cc
  ·
    rcases hps15 with mm | mm
    ·
      have rq17 := pke_eq (fun j hj => (jPTJ.2.1 j hj).trans ((sam_fm Fs11 (by decide +kernel) : SAM 228 _ _) j).symm) cc.2.2.2 mm.2.2.2
      refine z_store X (lv' := [(6, .int (Int32.ofInt e16)), (5, .int (Int32.ofInt e12)), (0, .ref q1), (1, .ref (A 0)), (2, .ref (A 179)), (3, .ref (A 517)), (4, .int (Int32.ofInt i))]) rfl (by decide) (fun _ h => h) (z_goto X (t := 1894) rfl rfl (w_widen (ce' := ce + 29) (sl' := sl + 222) (by first | exact Nat.le_add_right _ _ | exact Nat.add_le_add_left (by decide) _ | omega) (by first | exact Nat.le_add_right _ _ | exact Nat.add_le_add_left (by decide) _ | omega) ?_))
      exact WS_lv (lv := [(0, .ref q1), (1, .ref (A 0)), (2, .ref (A 179)), (3, .ref (A 517)), (4, .int (Int32.ofInt i))]) (List.forall_mem_cons.mpr ⟨(List.Mem.tail _ (List.Mem.tail _ (List.Mem.head _))), (List.forall_mem_cons.mpr ⟨(List.Mem.tail _ (List.Mem.tail _ (List.Mem.tail _ (List.Mem.head _)))), (List.forall_mem_cons.mpr ⟨(List.Mem.tail _ (List.Mem.tail _ (List.Mem.tail _ (List.Mem.tail _ (List.Mem.head _))))), (List.forall_mem_cons.mpr ⟨(List.Mem.tail _ (List.Mem.tail _ (List.Mem.tail _ (List.Mem.tail _ (List.Mem.tail _ (List.Mem.head _)))))), (List.forall_mem_cons.mpr ⟨(List.Mem.tail _ (List.Mem.tail _ (List.Mem.tail _ (List.Mem.tail _ (List.Mem.tail _ (List.Mem.tail _ (List.Mem.head _))))))), (fun q h => absurd h List.not_mem_nil)⟩)⟩)⟩)⟩)⟩) (hk A _ Is15 JRLx_s15 JFEQ_s15 JARJ_s15 JPTJ_s15 (by first | exact oq_f34933ba ws15_89 ws11_89 p1 b8.1 | omega) (by first | exact oq_d7ce4408 ws15_12 ws11_12 p2 | omega) (by first | exact oq_5bcdc35f ws15_74 ws15_0 ws11_74 ws11_0 p3 | omega) (by first | exact oq_5bcdc35f ws15_90 ws15_9 ws11_90 ws11_9 p4 | omega) (by first | exact oq_5bcdc35f ws15_98 ws15_20 ws11_98 ws11_20 p5 | omega))
    ·
      exfalso
      omega
  ·
    rcases hps15 with mm | mm
    ·
      exfalso
      omega
    ·
      refine z_store X (lv' := [(6, .int (Int32.ofInt e16)), (5, .int (Int32.ofInt e12)), (0, .ref q1), (1, .ref (A 0)), (2, .ref (A 179)), (3, .ref (A 517)), (4, .int (Int32.ofInt i))]) rfl (by decide) (fun _ h => h) (z_goto X (t := 1894) rfl rfl (w_widen (ce' := ce + 29) (sl' := sl + 222) (by first | exact Nat.le_add_right _ _ | exact Nat.add_le_add_left (by decide) _ | omega) (by first | exact Nat.le_add_right _ _ | exact Nat.add_le_add_left (by decide) _ | omega) ?_))
      exact WS_lv (lv := [(0, .ref q1), (1, .ref (A 0)), (2, .ref (A 179)), (3, .ref (A 517)), (4, .int (Int32.ofInt i))]) (List.forall_mem_cons.mpr ⟨(List.Mem.tail _ (List.Mem.tail _ (List.Mem.head _))), (List.forall_mem_cons.mpr ⟨(List.Mem.tail _ (List.Mem.tail _ (List.Mem.tail _ (List.Mem.head _)))), (List.forall_mem_cons.mpr ⟨(List.Mem.tail _ (List.Mem.tail _ (List.Mem.tail _ (List.Mem.tail _ (List.Mem.head _))))), (List.forall_mem_cons.mpr ⟨(List.Mem.tail _ (List.Mem.tail _ (List.Mem.tail _ (List.Mem.tail _ (List.Mem.tail _ (List.Mem.head _)))))), (List.forall_mem_cons.mpr ⟨(List.Mem.tail _ (List.Mem.tail _ (List.Mem.tail _ (List.Mem.tail _ (List.Mem.tail _ (List.Mem.tail _ (List.Mem.head _))))))), (fun q h => absurd h List.not_mem_nil)⟩)⟩)⟩)⟩)⟩) (hk A _ Is15 JRLx_s15 JFEQ_s15 JARJ_s15 JPTJ_s15 (by first | exact oq_f34933ba ws15_89 ws11_89 p1 b8.1 | omega) (by first | exact oq_d7ce4408 ws15_12 ws11_12 p2 | omega) (by first | exact oq_5bcdc35f ws15_74 ws15_0 ws11_74 ws11_0 p3 | omega) (by first | exact oq_5bcdc35f ws15_90 ws15_9 ws11_90 ws11_9 p4 | omega) (by first | exact oq_5bcdc35f ws15_98 ws15_20 ws11_98 ws11_20 p5 | omega))
theorem lc_13 (G : GX l s0 D tys a0 dT) (GR : RS0 s0) (SF : SF0 s0) (GT : TXs0 s0) (GW : TXw0 s0) {k : kx_T} (X : AX k 350 dT) (E : kL k = l ∧ kS0 k = s0 ∧ kD k = D ∧ kR k = room_1) {q1 L : Nat} {xs : Nat → Int32} (S : SX k q1 L xs) (hL : L ≤ 3072) (I : Bd s) (jR : RLx s) (jFEQ : FEQ s) (jARJ : ARJ s) (jPTJ : PTJ s) (p1 : iI s 89 = 1) (p2 : iI s 12 ≤ 8) (p3 : iI s 0 = iI s 74) (p4 : iI s 9 = iI s 90) (p5 : iI s 20 = iI s 98) {i : Int} (hi : 0 ≤ i ∧ i + 6 ≤ (L : Int)) {ce sl : Nat} (hce : ce + 29 ≤ 601024) (hsl : sl + 222 ≤ 7293034) (hk : ∀ (A : Nat → Nat) (t : PS), Bd t → RLx t → FEQ t → ARJ t → PTJ t → iI t 89 = 1 → iI t 12 ≤ 8 → iI t 0 = iI t 74 → iI t 9 = iI t 90 → iI t 20 = iI t 98 → WS k 1894 [(0, .ref q1), (1, .ref (A 0)), (2, .ref (A 179)), (3, .ref (A 517)), (4, .int (Int32.ofInt i))] [] (Wd A dT t) (ce + 29) (sl + 222)) : WS k 788 [(0, .ref q1), (1, .ref (A 0)), (2, .ref (A 179)), (3, .ref (A 517)), (4, .int (Int32.ofInt i))] [] (Wd A dT s) ce sl := by
  have F : Fm [73] [1460, 231, 232, 230] s s := fm_rf _ _ s
  have b1 := bi_0 I
  have b2 := bi_74 I
  have b3 := bi_9 I
  have b4 := bi_90 I
  have b5 := bi_20 I
  have b6 := bi_98 I
  have b7 := bi_12 I
  have b8 := bi_89 I
  refine z_aload_n X (x := A 0) rfl (List.Mem.tail _ (List.Mem.head _)) (z_aload_n X (x := q1) rfl (List.Mem.head _) (z_load X (x := i) rfl (List.Mem.tail _ (List.Mem.tail _ (List.Mem.tail _ (List.Mem.tail _ (List.Mem.head _))))) (z_const X rfl (z_add X rfl (z_sld X S hL rfl (show 0 ≤ (i + 1) ∧ (i + 1) < (L : Int) by first | exact sx_in hi (by decide) | omega) ?_)))))
  have sr9 : rng (sc xs (i + 1)) := sc_rng
  refine z_aload_n X (x := A 517) rfl (List.Mem.tail _ (List.Mem.tail _ (List.Mem.tail _ (List.Mem.head _)))) (z_callL X (rm := rmN 325) (As := [.ref (A 0), .int (Int32.ofInt (sc xs (i + 1))), .ref (A 517)]) (st := []) rfl (by decide) rfl (by rw [E.1, E.2.1, E.2.2.1]; exact lw_whole6 G I jPTJ.1 (by omega)) ⟨by rw [E.2.2.2]; exact (show 10 + 1 ≤ 2048 by decide), by rw [E.2.2.2]; exact (show 8 + (4 + 11) + 203 ≤ 84000 by decide), by rw [E.2.2.2]; exact (show ce + 1 ≤ 601024 by first | exact rmo_1 hce (by decide) | exact rmo_2 hce (by decide) | omega), by rw [E.2.2.2]; exact (show sl + 6 ≤ 7293034 by first | exact rmo_1 hsl (by decide) | exact rmo_2 hsl (by decide) | omega)⟩ (Nat.le_of_ble_eq_true rfl) (fun vv A s10 hA2 hq => ?_) (fun ee A s10 hA2 hq => ?_))
  rotate_left
  · obtain ⟨Is10, Fs10, e11, hv, hrs10, hps10⟩ := hq; cases hv
  obtain ⟨Is10, Fs10, e11, hv, hrs10, hps10⟩ := hq
  cases hv
  rw [← hA2 0 (by decide)]
  rw [← hA2 179 (by decide)]
  rw [← hA2 517 (by decide)]
  have JRLx_s10 : RLx s10 := RLx_fm Fs10 (by decide) jR
  have JFEQ_s10 : FEQ s10 := FEQ_fm Fs10 (by decide) jFEQ
  have JARJ_s10 : ARJ s10 := ARJ_fm Fs10 ⟨by decide +kernel, by decide +kernel, by decide +kernel, by decide +kernel, by decide +kernel, by decide +kernel, by decide +kernel, by decide +kernel⟩ jARJ
  have JPTJ_s10 : PTJ s10 := PTJ_fm Fs10 (by decide +kernel) jPTJ
  have ws10_0 : iI s10 0 = iI s 0 := fm_iq Fs10 rfl
  have ws10_74 : iI s10 74 = iI s 74 := fm_iq Fs10 rfl
  have ws10_9 : iI s10 9 = iI s 9 := fm_iq Fs10 rfl
  have ws10_90 : iI s10 90 = iI s 90 := fm_iq Fs10 rfl
  have ws10_20 : iI s10 20 = iI s 20 := fm_iq Fs10 rfl
  have ws10_98 : iI s10 98 = iI s 98 := fm_iq Fs10 rfl
  have ws10_12 : iI s10 12 = iI s 12 := fm_iq Fs10 rfl
  have ws10_89 : iI s10 89 = iI s 89 := fm_iq Fs10 rfl
  show WS k 799 [(0, .ref q1), (1, .ref (A 0)), (2, .ref (A 179)), (3, .ref (A 517)), (4, .int (Int32.ofInt i))] [.int (Int32.ofInt e11)] (Wd A dT s10) (ce + 1) (sl + 6)
  refine z_store X (lv' := [(5, .int (Int32.ofInt e11)), (0, .ref q1), (1, .ref (A 0)), (2, .ref (A 179)), (3, .ref (A 517)), (4, .int (Int32.ofInt i))]) rfl (by decide) (fun _ h => h) (z_aload_n X (x := A 179) rfl (List.Mem.tail _ (List.Mem.tail _ (List.Mem.tail _ (List.Mem.head _)))) (z_aload_n X (x := q1) rfl (List.Mem.tail _ (List.Mem.head _)) (z_load X (x := i) rfl (List.Mem.tail _ (List.Mem.tail _ (List.Mem.tail _ (List.Mem.tail _ (List.Mem.tail _ (List.Mem.head _)))))) (z_const X rfl (z_add X rfl (z_sld X S hL rfl (show 0 ≤ (i + 1) ∧ (i + 1) < (L : Int) by first | exact sx_in hi (by decide) | omega) ?_))))))
  have sr12 : rng (sc xs (i + 1)) := sc_rng
  refine z_callV X 179 (rm := rmN 241) (As := [.int (Int32.ofInt (sc xs (i + 1)))]) (st := []) rfl rfl (by decide) rfl (by rw [E.1, E.2.1, E.2.2.1]; exact k_whole6 G Is10 (by first | exact ⟨sr12.1, sr12.2⟩ | omega)) ⟨by rw [E.2.2.2]; exact (show 9 + 1 ≤ 2048 from oq_1d601463), by rw [E.2.2.2]; exact (show 8 + (2 + 11) + 171 ≤ 84000 from oq_485672f1), by rw [E.2.2.2]; exact (show (ce + 1) + 0 ≤ 601024 by first | (clear hps10; omega) | omega), by rw [E.2.2.2]; exact (show (sl + 6) + 0 ≤ 7293034 by first | (clear hps10; omega) | omega)⟩ (Nat.le_of_ble_eq_true rfl) (fun vv s13 hq => ?_) (fun ee s13 hq => ?_)
  rotate_left
  · obtain ⟨Is13, Fs13, e14, hv, hrs13, hps13⟩ := hq; cases hv
  obtain ⟨Is13, Fs13, e14, hv, hrs13, hps13⟩ := hq
  cases hv
  have JRLx_s13 : RLx s13 := RLx_fm Fs13 (by decide) JRLx_s10
  have JFEQ_s13 : FEQ s13 := FEQ_fm Fs13 (by decide) JFEQ_s10
  have JARJ_s13 : ARJ s13 := ARJ_fm Fs13 ⟨by decide +kernel, by decide +kernel, by decide +kernel, by decide +kernel, by decide +kernel, by decide +kernel, by decide +kernel, by decide +kernel⟩ JARJ_s10
  have JPTJ_s13 : PTJ s13 := PTJ_fm Fs13 (by decide +kernel) JPTJ_s10
  have ws13_0 : iI s13 0 = iI s10 0 := fm_iq Fs13 rfl
  have ws13_74 : iI s13 74 = iI s10 74 := fm_iq Fs13 rfl
  have ws13_9 : iI s13 9 = iI s10 9 := fm_iq Fs13 rfl
  have ws13_90 : iI s13 90 = iI s10 90 := fm_iq Fs13 rfl
  have ws13_20 : iI s13 20 = iI s10 20 := fm_iq Fs13 rfl
  have ws13_98 : iI s13 98 = iI s10 98 := fm_iq Fs13 rfl
  have ws13_12 : iI s13 12 = iI s10 12 := fm_iq Fs13 rfl
  have ws13_89 : iI s13 89 = iI s10 89 := fm_iq Fs13 rfl
  have wos13 : iO s13 = iO s10 := fm_o Fs13 (by decide)
  show WS k 811 [(5, .int (Int32.ofInt e11)), (0, .ref q1), (1, .ref (A 0)), (2, .ref (A 179)), (3, .ref (A 517)), (4, .int (Int32.ofInt i))] [.int (Int32.ofInt e14)] (Wd A dT s13) (ce + 1) (sl + 6)
  rcases hps10 with cc | cc
  ·
    rcases hps13 with mm | mm
    ·
      have rq15 := hge_eq (fun j hj => (jPTJ.2.1 j hj).trans ((sam_fm Fs10 (by decide +kernel) : SAM 228 _ _) j).symm) cc.2.2.2 mm.2.2.2
      have rqB : e14 = 1 ∨ e14 = 0 := mm.2.2.2.elim (fun z => Or.inl z.1) (fun z => Or.inr z.1)
      refine z_store X (lv' := [(6, .int (Int32.ofInt e14)), (5, .int (Int32.ofInt e11)), (0, .ref q1), (1, .ref (A 0)), (2, .ref (A 179)), (3, .ref (A 517)), (4, .int (Int32.ofInt i))]) rfl (by decide) (fun _ h => h) (z_goto X (t := 1894) rfl rfl (w_widen (ce' := ce + 29) (sl' := sl + 222) (by first | exact Nat.le_add_right _ _ | exact Nat.add_le_add_left (by decide) _ | omega) (by first | exact Nat.le_add_right _ _ | exact Nat.add_le_add_left (by decide) _ | omega) ?_))
      exact WS_lv (lv := [(0, .ref q1), (1, .ref (A 0)), (2, .ref (A 179)), (3, .ref (A 517)), (4, .int (Int32.ofInt i))]) (List.forall_mem_cons.mpr ⟨(List.Mem.tail _ (List.Mem.tail _ (List.Mem.head _))), (List.forall_mem_cons.mpr ⟨(List.Mem.tail _ (List.Mem.tail _ (List.Mem.tail _ (List.Mem.head _)))), (List.forall_mem_cons.mpr ⟨(List.Mem.tail _ (List.Mem.tail _ (List.Mem.tail _ (List.Mem.tail _ (List.Mem.head _))))), (List.forall_mem_cons.mpr ⟨(List.Mem.tail _ (List.Mem.tail _ (List.Mem.tail _ (List.Mem.tail _ (List.Mem.tail _ (List.Mem.head _)))))), (List.forall_mem_cons.mpr ⟨(List.Mem.tail _ (List.Mem.tail _ (List.Mem.tail _ (List.Mem.tail _ (List.Mem.tail _ (List.Mem.tail _ (List.Mem.head _))))))), (fun q h => absurd h List.not_mem_nil)⟩)⟩)⟩)⟩)⟩) (hk A _ Is13 JRLx_s13 JFEQ_s13 JARJ_s13 JPTJ_s13 (by first | exact oq_f34933ba ws13_89 ws10_89 p1 b8.1 | omega) (by first | exact oq_d7ce4408 ws13_12 ws10_12 p2 | omega) (by first | exact oq_5bcdc35f ws13_74 ws13_0 ws10_74 ws10_0 p3 | omega) (by first | exact oq_5bcdc35f ws13_90 ws13_9 ws10_90 ws10_9 p4 | omega) (by first | exact oq_5bcdc35f ws13_98 ws13_20 ws10_98 ws10_20 p5 | omega))
    ·
      exfalso
      omega
  ·
    rcases hps13 with mm | mm
    ·
      exfalso
      omega
    ·
      refine z_store X (lv' := [(6, .int (Int32.ofInt e14)), (5, .int (Int32.ofInt e11)), (0, .ref q1), (1, .ref (A 0)), (2, .ref (A 179)), (3, .ref (A 517)), (4, .int (Int32.ofInt i))]) rfl (by decide) (fun _ h => h) (z_goto X (t := 1894) rfl rfl (w_widen (ce' := ce + 29) (sl' := sl + 222) (by first | exact Nat.le_add_right _ _ | exact Nat.add_le_add_left (by decide) _ | omega) (by first | exact Nat.le_add_right _ _ | exact Nat.add_le_add_left (by decide) _ | omega) ?_))
      exact WS_lv (lv := [(0, .ref q1), (1, .ref (A 0)), (2, .ref (A 179)), (3, .ref (A 517)), (4, .int (Int32.ofInt i))]) (List.forall_mem_cons.mpr ⟨(List.Mem.tail _ (List.Mem.tail _ (List.Mem.head _))), (List.forall_mem_cons.mpr ⟨(List.Mem.tail _ (List.Mem.tail _ (List.Mem.tail _ (List.Mem.head _)))), (List.forall_mem_cons.mpr ⟨(List.Mem.tail _ (List.Mem.tail _ (List.Mem.tail _ (List.Mem.tail _ (List.Mem.head _))))), (List.forall_mem_cons.mpr ⟨(List.Mem.tail _ (List.Mem.tail _ (List.Mem.tail _ (List.Mem.tail _ (List.Mem.tail _ (List.Mem.head _)))))), (List.forall_mem_cons.mpr ⟨(List.Mem.tail _ (List.Mem.tail _ (List.Mem.tail _ (List.Mem.tail _ (List.Mem.tail _ (List.Mem.tail _ (List.Mem.head _))))))), (fun q h => absurd h List.not_mem_nil)⟩)⟩)⟩)⟩)⟩) (hk A _ Is13 JRLx_s13 JFEQ_s13 JARJ_s13 JPTJ_s13 (by first | exact oq_f34933ba ws13_89 ws10_89 p1 b8.1 | omega) (by first | exact oq_d7ce4408 ws13_12 ws10_12 p2 | omega) (by first | exact oq_5bcdc35f ws13_74 ws13_0 ws10_74 ws10_0 p3 | omega) (by first | exact oq_5bcdc35f ws13_90 ws13_9 ws10_90 ws10_9 p4 | omega) (by first | exact oq_5bcdc35f ws13_98 ws13_20 ws10_98 ws10_20 p5 | omega))
theorem lc_14 (G : GX l s0 D tys a0 dT) (GR : RS0 s0) (SF : SF0 s0) (GT : TXs0 s0) (GW : TXw0 s0) {k : kx_T} (X : AX k 350 dT) (E : kL k = l ∧ kS0 k = s0 ∧ kD k = D ∧ kR k = room_1) {q1 L : Nat} {xs : Nat → Int32} (S : SX k q1 L xs) (hL : L ≤ 3072) (I : Bd s) (jR : RLx s) (jFEQ : FEQ s) (jARJ : ARJ s) (jPTJ : PTJ s) (p1 : iI s 89 = 1) (p2 : iI s 12 ≤ 8) (p3 : iI s 0 = iI s 74) (p4 : iI s 9 = iI s 90) (p5 : iI s 20 = iI s 98) {i : Int} (hi : 0 ≤ i ∧ i + 6 ≤ (L : Int)) {ce sl : Nat} (hce : ce + 29 ≤ 601024) (hsl : sl + 222 ≤ 7293034) (hk : ∀ (A : Nat → Nat) (t : PS), Bd t → RLx t → FEQ t → ARJ t → PTJ t → iI t 89 = 1 → iI t 12 ≤ 8 → iI t 0 = iI t 74 → iI t 9 = iI t 90 → iI t 20 = iI t 98 → WS k 1894 [(0, .ref q1), (1, .ref (A 0)), (2, .ref (A 179)), (3, .ref (A 517)), (4, .int (Int32.ofInt i))] [] (Wd A dT t) (ce + 29) (sl + 222)) : WS k 816 [(0, .ref q1), (1, .ref (A 0)), (2, .ref (A 179)), (3, .ref (A 517)), (4, .int (Int32.ofInt i))] [] (Wd A dT s) ce sl := by
  have F : Fm [73] [1460, 231, 232, 230] s s := fm_rf _ _ s
  have b1 := bi_0 I
  have b2 := bi_74 I
  have b3 := bi_9 I
  have b4 := bi_90 I
  have b5 := bi_20 I
  have b6 := bi_98 I
  have b7 := bi_12 I
  have b8 := bi_89 I
  refine z_aload_n X (x := A 0) rfl (List.Mem.tail _ (List.Mem.head _)) (z_aload_n X (x := q1) rfl (List.Mem.head _) (z_load X (x := i) rfl (List.Mem.tail _ (List.Mem.tail _ (List.Mem.tail _ (List.Mem.tail _ (List.Mem.head _))))) (z_const X rfl (z_add X rfl (z_sld X S hL rfl (show 0 ≤ (i + 1) ∧ (i + 1) < (L : Int) by first | exact sx_in hi (by decide) | omega) ?_)))))
  have sr9 : rng (sc xs (i + 1)) := sc_rng
  refine z_aload_n X (x := q1) rfl (List.Mem.head _) (z_load X (x := i) rfl (List.Mem.tail _ (List.Mem.tail _ (List.Mem.tail _ (List.Mem.tail _ (List.Mem.head _))))) (z_const X rfl (z_add X rfl (z_sld X S hL rfl (show 0 ≤ (i + 2) ∧ (i + 2) < (L : Int) by first | exact sx_in hi (by decide) | omega) ?_))))
  have sr10 : rng (sc xs (i + 2)) := sc_rng
  refine z_aload_n X (x := A 517) rfl (List.Mem.tail _ (List.Mem.tail _ (List.Mem.tail _ (List.Mem.head _)))) (z_callL X (rm := rmN 326) (As := [.ref (A 0), .int (Int32.ofInt (sc xs (i + 1))), .int (Int32.ofInt (sc xs (i + 2))), .ref (A 517)]) (st := []) rfl (by decide) rfl (by rw [E.1, E.2.1, E.2.2.1]; exact lw_neck G I (by omega) (by omega)) ⟨by rw [E.2.2.2]; exact (show 11 + 1 ≤ 2048 by decide), by rw [E.2.2.2]; exact (show 8 + (5 + 11) + 235 ≤ 84000 by decide), by rw [E.2.2.2]; exact (show ce + 1 ≤ 601024 by first | exact rmo_1 hce (by decide) | exact rmo_2 hce (by decide) | omega), by rw [E.2.2.2]; exact (show sl + 6 ≤ 7293034 by first | exact rmo_1 hsl (by decide) | exact rmo_2 hsl (by decide) | omega)⟩ (Nat.le_of_ble_eq_true rfl) (fun vv A s11 hA2 hq => ?_) (fun ee A s11 hA2 hq => ?_))
  rotate_left
  · obtain ⟨Is11, Fs11, e12, hv, hrs11, hps11⟩ := hq; cases hv
  obtain ⟨Is11, Fs11, e12, hv, hrs11, hps11⟩ := hq
  cases hv
  rw [← hA2 0 (by decide)]
  rw [← hA2 179 (by decide)]
  rw [← hA2 517 (by decide)]
  have JRLx_s11 : RLx s11 := RLx_fm Fs11 (by decide) jR
  have JFEQ_s11 : FEQ s11 := FEQ_fm Fs11 (by decide) jFEQ
  have JARJ_s11 : ARJ s11 := ARJ_fm Fs11 ⟨by decide +kernel, by decide +kernel, by decide +kernel, by decide +kernel, by decide +kernel, by decide +kernel, by decide +kernel, by decide +kernel⟩ jARJ
  have JPTJ_s11 : PTJ s11 := PTJ_fm Fs11 (by decide +kernel) jPTJ
  have ws11_0 : iI s11 0 = iI s 0 := fm_iq Fs11 rfl
  have ws11_74 : iI s11 74 = iI s 74 := fm_iq Fs11 rfl
  have ws11_9 : iI s11 9 = iI s 9 := fm_iq Fs11 rfl
  have ws11_90 : iI s11 90 = iI s 90 := fm_iq Fs11 rfl
  have ws11_20 : iI s11 20 = iI s 20 := fm_iq Fs11 rfl
  have ws11_98 : iI s11 98 = iI s 98 := fm_iq Fs11 rfl
  have ws11_12 : iI s11 12 = iI s 12 := fm_iq Fs11 rfl
  have ws11_89 : iI s11 89 = iI s 89 := fm_iq Fs11 rfl
  show WS k 833 [(0, .ref q1), (1, .ref (A 0)), (2, .ref (A 179)), (3, .ref (A 517)), (4, .int (Int32.ofInt i))] [.int (Int32.ofInt e12)] (Wd A dT s11) (ce + 1) (sl + 6)
  refine z_store X (lv' := [(5, .int (Int32.ofInt e12)), (0, .ref q1), (1, .ref (A 0)), (2, .ref (A 179)), (3, .ref (A 517)), (4, .int (Int32.ofInt i))]) rfl (by decide) (fun _ h => h) (z_aload_n X (x := A 179) rfl (List.Mem.tail _ (List.Mem.tail _ (List.Mem.tail _ (List.Mem.head _)))) (z_aload_n X (x := q1) rfl (List.Mem.tail _ (List.Mem.head _)) (z_load X (x := i) rfl (List.Mem.tail _ (List.Mem.tail _ (List.Mem.tail _ (List.Mem.tail _ (List.Mem.tail _ (List.Mem.head _)))))) (z_const X rfl (z_add X rfl (z_sld X S hL rfl (show 0 ≤ (i + 1) ∧ (i + 1) < (L : Int) by first | exact sx_in hi (by decide) | omega) ?_))))))
  have sr13 : rng (sc xs (i + 1)) := sc_rng
  refine z_aload_n X (x := q1) rfl (List.Mem.tail _ (List.Mem.head _)) (z_load X (x := i) rfl (List.Mem.tail _ (List.Mem.tail _ (List.Mem.tail _ (List.Mem.tail _ (List.Mem.tail _ (List.Mem.head _)))))) (z_const X rfl (z_add X rfl (z_sld X S hL rfl (show 0 ≤ (i + 2) ∧ (i + 2) < (L : Int) by first | exact sx_in hi (by decide) | omega) ?_))))
  have sr14 : rng (sc xs (i + 2)) := sc_rng
  refine z_callV X 179 (rm := rmN 242) (As := [.int (Int32.ofInt (sc xs (i + 1))), .int (Int32.ofInt (sc xs (i + 2)))]) (st := []) rfl rfl (by decide) rfl (by rw [E.1, E.2.1, E.2.2.1]; exact k_neck G Is11 (by first | exact ⟨sr13.1, sr13.2⟩ | omega) (by first | exact ⟨sr14.1, sr14.2⟩ | omega)) ⟨by rw [E.2.2.2]; exact (show 9 + 1 ≤ 2048 from oq_1d601463), by rw [E.2.2.2]; exact (show 8 + (6 + 11) + 171 ≤ 84000 from oq_da2b07c8), by rw [E.2.2.2]; exact (show (ce + 1) + 0 ≤ 601024 by omega), by rw [E.2.2.2]; exact (show (sl + 6) + 0 ≤ 7293034 by omega)⟩ (Nat.le_of_ble_eq_true rfl) (fun vv s15 hq => ?_) (fun ee s15 hq => ?_)
  rotate_left
  · obtain ⟨Is15, Fs15, e16, hv, hrs15, hps15⟩ := hq; cases hv
  obtain ⟨Is15, Fs15, e16, hv, hrs15, hps15⟩ := hq
  cases hv
  have JRLx_s15 : RLx s15 := RLx_fm Fs15 (by decide) JRLx_s11
  have JFEQ_s15 : FEQ s15 := FEQ_fm Fs15 (by decide) JFEQ_s11
  have JARJ_s15 : ARJ s15 := ARJ_fm Fs15 ⟨by decide +kernel, by decide +kernel, by decide +kernel, by decide +kernel, by decide +kernel, by decide +kernel, by decide +kernel, by decide +kernel⟩ JARJ_s11
  have JPTJ_s15 : PTJ s15 := PTJ_fm Fs15 (by decide +kernel) JPTJ_s11
  have ws15_0 : iI s15 0 = iI s11 0 := fm_iq Fs15 rfl
  have ws15_74 : iI s15 74 = iI s11 74 := fm_iq Fs15 rfl
  have ws15_9 : iI s15 9 = iI s11 9 := fm_iq Fs15 rfl
  have ws15_90 : iI s15 90 = iI s11 90 := fm_iq Fs15 rfl
  have ws15_20 : iI s15 20 = iI s11 20 := fm_iq Fs15 rfl
  have ws15_98 : iI s15 98 = iI s11 98 := fm_iq Fs15 rfl
  have ws15_12 : iI s15 12 = iI s11 12 := fm_iq Fs15 rfl
  have ws15_89 : iI s15 89 = iI s11 89 := fm_iq Fs15 rfl
  have wos15 : iO s15 = iO s11 := fm_o Fs15 (by decide)
  show WS k 851 [(5, .int (Int32.ofInt e12)), (0, .ref q1), (1, .ref (A 0)), (2, .ref (A 179)), (3, .ref (A 517)), (4, .int (Int32.ofInt i))] [.int (Int32.ofInt e16)] (Wd A dT s15) (ce + 1) (sl + 6)
  refine z_store X (lv' := [(6, .int (Int32.ofInt e16)), (5, .int (Int32.ofInt e12)), (0, .ref q1), (1, .ref (A 0)), (2, .ref (A 179)), (3, .ref (A 517)), (4, .int (Int32.ofInt i))]) rfl (by decide) (fun _ h => h) (z_goto X (t := 1894) rfl rfl (w_widen (ce' := ce + 29) (sl' := sl + 222) (by first | exact Nat.le_add_right _ _ | exact Nat.add_le_add_left (by decide) _ | omega) (by first | exact Nat.le_add_right _ _ | exact Nat.add_le_add_left (by decide) _ | omega) ?_))
  exact WS_lv (lv := [(0, .ref q1), (1, .ref (A 0)), (2, .ref (A 179)), (3, .ref (A 517)), (4, .int (Int32.ofInt i))]) (List.forall_mem_cons.mpr ⟨(List.Mem.tail _ (List.Mem.tail _ (List.Mem.head _))), (List.forall_mem_cons.mpr ⟨(List.Mem.tail _ (List.Mem.tail _ (List.Mem.tail _ (List.Mem.head _)))), (List.forall_mem_cons.mpr ⟨(List.Mem.tail _ (List.Mem.tail _ (List.Mem.tail _ (List.Mem.tail _ (List.Mem.head _))))), (List.forall_mem_cons.mpr ⟨(List.Mem.tail _ (List.Mem.tail _ (List.Mem.tail _ (List.Mem.tail _ (List.Mem.tail _ (List.Mem.head _)))))), (List.forall_mem_cons.mpr ⟨(List.Mem.tail _ (List.Mem.tail _ (List.Mem.tail _ (List.Mem.tail _ (List.Mem.tail _ (List.Mem.tail _ (List.Mem.head _))))))), (fun q h => absurd h List.not_mem_nil)⟩)⟩)⟩)⟩)⟩) (hk A _ Is15 JRLx_s15 JFEQ_s15 JARJ_s15 JPTJ_s15 (by first | exact oq_f34933ba ws15_89 ws11_89 p1 b8.1 | omega) (by first | exact oq_d7ce4408 ws15_12 ws11_12 p2 | omega) (by first | exact oq_5bcdc35f ws15_74 ws15_0 ws11_74 ws11_0 p3 | omega) (by first | exact oq_5bcdc35f ws15_90 ws15_9 ws11_90 ws11_9 p4 | omega) (by first | exact oq_5bcdc35f ws15_98 ws15_20 ws11_98 ws11_20 p5 | omega))
theorem lc_15 (G : GX l s0 D tys a0 dT) (GR : RS0 s0) (SF : SF0 s0) (GT : TXs0 s0) (GW : TXw0 s0) {k : kx_T} (X : AX k 350 dT) (E : kL k = l ∧ kS0 k = s0 ∧ kD k = D ∧ kR k = room_1) {q1 L : Nat} {xs : Nat → Int32} (S : SX k q1 L xs) (hL : L ≤ 3072) (I : Bd s) (jR : RLx s) (jFEQ : FEQ s) (jARJ : ARJ s) (jPTJ : PTJ s) (p1 : iI s 89 = 1) (p2 : iI s 12 ≤ 8) (p3 : iI s 0 = iI s 74) (p4 : iI s 9 = iI s 90) (p5 : iI s 20 = iI s 98) {i : Int} (hi : 0 ≤ i ∧ i + 6 ≤ (L : Int)) {ce sl : Nat} (hce : ce + 29 ≤ 601024) (hsl : sl + 222 ≤ 7293034) (hk : ∀ (A : Nat → Nat) (t : PS), Bd t → RLx t → FEQ t → ARJ t → PTJ t → iI t 89 = 1 → iI t 12 ≤ 8 → iI t 0 = iI t 74 → iI t 9 = iI t 90 → iI t 20 = iI t 98 → WS k 1894 [(0, .ref q1), (1, .ref (A 0)), (2, .ref (A 179)), (3, .ref (A 517)), (4, .int (Int32.ofInt i))] [] (Wd A dT t) (ce + 29) (sl + 222)) : WS k 856 [(0, .ref q1), (1, .ref (A 0)), (2, .ref (A 179)), (3, .ref (A 517)), (4, .int (Int32.ofInt i))] [] (Wd A dT s) ce sl := by
  have F : Fm [73] [1460] s s := fm_rf _ _ s
  have b1 := bi_0 I
  have b2 := bi_74 I
  have b3 := bi_9 I
  have b4 := bi_90 I
  have b5 := bi_20 I
  have b6 := bi_98 I
  have b7 := bi_12 I
  have b8 := bi_89 I
  refine z_aload_n X (x := A 0) rfl (List.Mem.tail _ (List.Mem.head _)) (z_aload_n X (x := q1) rfl (List.Mem.head _) (z_load X (x := i) rfl (List.Mem.tail _ (List.Mem.tail _ (List.Mem.tail _ (List.Mem.tail _ (List.Mem.head _))))) (z_const X rfl (z_add X rfl (z_sld X S hL rfl (show 0 ≤ (i + 1) ∧ (i + 1) < (L : Int) by first | exact sx_in hi (by decide) | omega) ?_)))))
  have sr9 : rng (sc xs (i + 1)) := sc_rng
  refine z_aload_n X (x := A 517) rfl (List.Mem.tail _ (List.Mem.tail _ (List.Mem.tail _ (List.Mem.head _)))) (z_callL X (rm := rmN 327) (As := [.ref (A 0), .int (Int32.ofInt (sc xs (i + 1))), .ref (A 517)]) (st := []) rfl (by decide) rfl (by rw [E.1, E.2.1, E.2.2.1]; exact lw_shorts G I (by omega)) ⟨by rw [E.2.2.2]; exact (show 10 + 1 ≤ 2048 by decide), by rw [E.2.2.2]; exact (show 8 + (4 + 11) + 198 ≤ 84000 by decide), by rw [E.2.2.2]; exact (show ce + 1 ≤ 601024 by first | exact rmo_1 hce (by decide) | exact rmo_2 hce (by decide) | omega), by rw [E.2.2.2]; exact (show sl + 6 ≤ 7293034 by first | exact rmo_1 hsl (by decide) | exact rmo_2 hsl (by decide) | omega)⟩ (Nat.le_of_ble_eq_true rfl) (fun vv A s10 hA2 hq => ?_) (fun ee A s10 hA2 hq => ?_))
  rotate_left
  · obtain ⟨Is10, Fs10, e11, hv, hrs10, hps10⟩ := hq; cases hv
  obtain ⟨Is10, Fs10, e11, hv, hrs10, hps10⟩ := hq
  cases hv
  rw [← hA2 0 (by decide)]
  rw [← hA2 179 (by decide)]
  rw [← hA2 517 (by decide)]
  have JRLx_s10 : RLx s10 := RLx_fm Fs10 (by decide) jR
  have JFEQ_s10 : FEQ s10 := FEQ_fm Fs10 (by decide) jFEQ
  have JARJ_s10 : ARJ s10 := ARJ_fm Fs10 ⟨by decide +kernel, by decide +kernel, by decide +kernel, by decide +kernel, by decide +kernel, by decide +kernel, by decide +kernel, by decide +kernel⟩ jARJ
  have JPTJ_s10 : PTJ s10 := PTJ_fm Fs10 (by decide +kernel) jPTJ
  have ws10_0 : iI s10 0 = iI s 0 := fm_iq Fs10 rfl
  have ws10_74 : iI s10 74 = iI s 74 := fm_iq Fs10 rfl
  have ws10_9 : iI s10 9 = iI s 9 := fm_iq Fs10 rfl
  have ws10_90 : iI s10 90 = iI s 90 := fm_iq Fs10 rfl
  have ws10_20 : iI s10 20 = iI s 20 := fm_iq Fs10 rfl
  have ws10_98 : iI s10 98 = iI s 98 := fm_iq Fs10 rfl
  have ws10_12 : iI s10 12 = iI s 12 := fm_iq Fs10 rfl
  have ws10_89 : iI s10 89 = iI s 89 := fm_iq Fs10 rfl
  show WS k 867 [(0, .ref q1), (1, .ref (A 0)), (2, .ref (A 179)), (3, .ref (A 517)), (4, .int (Int32.ofInt i))] [.int (Int32.ofInt e11)] (Wd A dT s10) (ce + 1) (sl + 6)
  refine z_store X (lv' := [(5, .int (Int32.ofInt e11)), (0, .ref q1), (1, .ref (A 0)), (2, .ref (A 179)), (3, .ref (A 517)), (4, .int (Int32.ofInt i))]) rfl (by decide) (fun _ h => h) (z_aload_n X (x := A 179) rfl (List.Mem.tail _ (List.Mem.tail _ (List.Mem.tail _ (List.Mem.head _)))) (z_aload_n X (x := q1) rfl (List.Mem.tail _ (List.Mem.head _)) (z_load X (x := i) rfl (List.Mem.tail _ (List.Mem.tail _ (List.Mem.tail _ (List.Mem.tail _ (List.Mem.tail _ (List.Mem.head _)))))) (z_const X rfl (z_add X rfl (z_sld X S hL rfl (show 0 ≤ (i + 1) ∧ (i + 1) < (L : Int) by first | exact sx_in hi (by decide) | omega) ?_))))))
  have sr12 : rng (sc xs (i + 1)) := sc_rng
  refine z_callV X 179 (rm := rmN 243) (As := [.int (Int32.ofInt (sc xs (i + 1)))]) (st := []) rfl rfl (by decide) rfl (by rw [E.1, E.2.1, E.2.2.1]; exact k_shorts G Is10 (by first | exact ⟨sr12.1, sr12.2⟩ | omega)) ⟨by rw [E.2.2.2]; exact (show 7 + 1 ≤ 2048 from oq_4e6106eb), by rw [E.2.2.2]; exact (show 8 + (7 + 11) + 122 ≤ 84000 from oq_f75bb075), by rw [E.2.2.2]; exact (show (ce + 1) + 0 ≤ 601024 by omega), by rw [E.2.2.2]; exact (show (sl + 6) + 0 ≤ 7293034 by omega)⟩ (Nat.le_of_ble_eq_true rfl) (fun vv s13 hq => ?_) (fun ee s13 hq => ?_)
  rotate_left
  · obtain ⟨Is13, Fs13, e14, hv, hrs13, hps13⟩ := hq; cases hv
  obtain ⟨Is13, Fs13, e14, hv, hrs13, hps13⟩ := hq
  cases hv
  have JRLx_s13 : RLx s13 := RLx_fm Fs13 (by decide) JRLx_s10
  have JFEQ_s13 : FEQ s13 := FEQ_fm Fs13 (by decide) JFEQ_s10
  have JARJ_s13 : ARJ s13 := ARJ_fm Fs13 ⟨by decide +kernel, by decide +kernel, by decide +kernel, by decide +kernel, by decide +kernel, by decide +kernel, by decide +kernel, by decide +kernel⟩ JARJ_s10
  have JPTJ_s13 : PTJ s13 := PTJ_fm Fs13 (by decide +kernel) JPTJ_s10
  have ws13_0 : iI s13 0 = iI s10 0 := fm_iq Fs13 rfl
  have ws13_74 : iI s13 74 = iI s10 74 := fm_iq Fs13 rfl
  have ws13_9 : iI s13 9 = iI s10 9 := fm_iq Fs13 rfl
  have ws13_90 : iI s13 90 = iI s10 90 := fm_iq Fs13 rfl
  have ws13_20 : iI s13 20 = iI s10 20 := fm_iq Fs13 rfl
  have ws13_98 : iI s13 98 = iI s10 98 := fm_iq Fs13 rfl
  have ws13_12 : iI s13 12 = iI s10 12 := fm_iq Fs13 rfl
  have ws13_89 : iI s13 89 = iI s10 89 := fm_iq Fs13 rfl
  have wos13 : iO s13 = iO s10 := fm_o Fs13 (by decide)
  show WS k 879 [(5, .int (Int32.ofInt e11)), (0, .ref q1), (1, .ref (A 0)), (2, .ref (A 179)), (3, .ref (A 517)), (4, .int (Int32.ofInt i))] [.int (Int32.ofInt e14)] (Wd A dT s13) (ce + 1) (sl + 6)
  refine z_store X (lv' := [(6, .int (Int32.ofInt e14)), (5, .int (Int32.ofInt e11)), (0, .ref q1), (1, .ref (A 0)), (2, .ref (A 179)), (3, .ref (A 517)), (4, .int (Int32.ofInt i))]) rfl (by decide) (fun _ h => h) (z_goto X (t := 1894) rfl rfl (w_widen (ce' := ce + 29) (sl' := sl + 222) (by first | exact Nat.le_add_right _ _ | exact Nat.add_le_add_left (by decide) _ | omega) (by first | exact Nat.le_add_right _ _ | exact Nat.add_le_add_left (by decide) _ | omega) ?_))
  exact WS_lv (lv := [(0, .ref q1), (1, .ref (A 0)), (2, .ref (A 179)), (3, .ref (A 517)), (4, .int (Int32.ofInt i))]) (List.forall_mem_cons.mpr ⟨(List.Mem.tail _ (List.Mem.tail _ (List.Mem.head _))), (List.forall_mem_cons.mpr ⟨(List.Mem.tail _ (List.Mem.tail _ (List.Mem.tail _ (List.Mem.head _)))), (List.forall_mem_cons.mpr ⟨(List.Mem.tail _ (List.Mem.tail _ (List.Mem.tail _ (List.Mem.tail _ (List.Mem.head _))))), (List.forall_mem_cons.mpr ⟨(List.Mem.tail _ (List.Mem.tail _ (List.Mem.tail _ (List.Mem.tail _ (List.Mem.tail _ (List.Mem.head _)))))), (List.forall_mem_cons.mpr ⟨(List.Mem.tail _ (List.Mem.tail _ (List.Mem.tail _ (List.Mem.tail _ (List.Mem.tail _ (List.Mem.tail _ (List.Mem.head _))))))), (fun q h => absurd h List.not_mem_nil)⟩)⟩)⟩)⟩)⟩) (hk A _ Is13 JRLx_s13 JFEQ_s13 JARJ_s13 JPTJ_s13 (by first | exact oq_f34933ba ws13_89 ws10_89 p1 b8.1 | omega) (by first | exact oq_d7ce4408 ws13_12 ws10_12 p2 | omega) (by first | exact oq_5bcdc35f ws13_74 ws13_0 ws10_74 ws10_0 p3 | omega) (by first | exact oq_5bcdc35f ws13_90 ws13_9 ws10_90 ws10_9 p4 | omega) (by first | exact oq_5bcdc35f ws13_98 ws13_20 ws10_98 ws10_20 p5 | omega))
theorem lc_16 (G : GX l s0 D tys a0 dT) (GR : RS0 s0) (SF : SF0 s0) (GT : TXs0 s0) (GW : TXw0 s0) {k : kx_T} (X : AX k 350 dT) (E : kL k = l ∧ kS0 k = s0 ∧ kD k = D ∧ kR k = room_1) {q1 L : Nat} {xs : Nat → Int32} (S : SX k q1 L xs) (hL : L ≤ 3072) (I : Bd s) (jR : RLx s) (jFEQ : FEQ s) (jARJ : ARJ s) (jPTJ : PTJ s) (p1 : iI s 89 = 1) (p2 : iI s 12 ≤ 8) (p3 : iI s 0 = iI s 74) (p4 : iI s 9 = iI s 90) (p5 : iI s 20 = iI s 98) {i : Int} (hi : 0 ≤ i ∧ i + 6 ≤ (L : Int)) {ce sl : Nat} (hce : ce + 29 ≤ 601024) (hsl : sl + 222 ≤ 7293034) (hk : ∀ (A : Nat → Nat) (t : PS), Bd t → RLx t → FEQ t → ARJ t → PTJ t → iI t 89 = 1 → iI t 12 ≤ 8 → iI t 0 = iI t 74 → iI t 9 = iI t 90 → iI t 20 = iI t 98 → WS k 1894 [(0, .ref q1), (1, .ref (A 0)), (2, .ref (A 179)), (3, .ref (A 517)), (4, .int (Int32.ofInt i))] [] (Wd A dT t) (ce + 29) (sl + 222)) : WS k 884 [(0, .ref q1), (1, .ref (A 0)), (2, .ref (A 179)), (3, .ref (A 517)), (4, .int (Int32.ofInt i))] [] (Wd A dT s) ce sl := by
  have F : Fm [21, 73, 95] [1460] s s := fm_rf _ _ s
  have b1 := bi_0 I
  have b2 := bi_74 I
  have b3 := bi_9 I
  have b4 := bi_90 I
  have b5 := bi_20 I
  have b6 := bi_98 I
  have b7 := bi_12 I
  have b8 := bi_89 I
  refine z_aload_n X (x := A 0) rfl (List.Mem.tail _ (List.Mem.head _)) (z_aload_n X (x := q1) rfl (List.Mem.head _) (z_load X (x := i) rfl (List.Mem.tail _ (List.Mem.tail _ (List.Mem.tail _ (List.Mem.tail _ (List.Mem.head _))))) (z_const X rfl (z_add X rfl (z_sld X S hL rfl (show 0 ≤ (i + 1) ∧ (i + 1) < (L : Int) by first | exact sx_in hi (by decide) | omega) ?_)))))
  have sr9 : rng (sc xs (i + 1)) := sc_rng
  refine z_aload_n X (x := A 517) rfl (List.Mem.tail _ (List.Mem.tail _ (List.Mem.tail _ (List.Mem.head _)))) (z_callL X (rm := rmN 328) (As := [.ref (A 0), .int (Int32.ofInt (sc xs (i + 1))), .ref (A 517)]) (st := []) rfl (by decide) rfl (by rw [E.1, E.2.1, E.2.2.1]; exact lw_length G I (by omega)) ⟨by rw [E.2.2.2]; exact (show 8 + 1 ≤ 2048 by decide), by rw [E.2.2.2]; exact (show 8 + (4 + 11) + 145 ≤ 84000 by decide), by rw [E.2.2.2]; exact (show ce + 1 ≤ 601024 by first | exact rmo_1 hce (by decide) | exact rmo_2 hce (by decide) | omega), by rw [E.2.2.2]; exact (show sl + 6 ≤ 7293034 by first | exact rmo_1 hsl (by decide) | exact rmo_2 hsl (by decide) | omega)⟩ (Nat.le_of_ble_eq_true rfl) (fun vv A s10 hA2 hq => ?_) (fun ee A s10 hA2 hq => ?_))
  rotate_left
  · obtain ⟨Is10, Fs10, e11, hv, hrs10, hps10⟩ := hq; cases hv
  obtain ⟨Is10, Fs10, e11, hv, hrs10, hps10⟩ := hq
  cases hv
  rw [← hA2 0 (by decide)]
  rw [← hA2 179 (by decide)]
  rw [← hA2 517 (by decide)]
  have JRLx_s10 : RLx s10 := RLx_fm Fs10 (by decide) jR
  have JFEQ_s10 : FEQ s10 := FEQ_fm Fs10 (by decide) jFEQ
  have JARJ_s10 : ARJ s10 := ARJ_fm Fs10 ⟨by decide +kernel, by decide +kernel, by decide +kernel, by decide +kernel, by decide +kernel, by decide +kernel, by decide +kernel, by decide +kernel⟩ jARJ
  have JPTJ_s10 : PTJ s10 := PTJ_fm Fs10 (by decide +kernel) jPTJ
  have ws10_0 : iI s10 0 = iI s 0 := fm_iq Fs10 rfl
  have ws10_74 : iI s10 74 = iI s 74 := fm_iq Fs10 rfl
  have ws10_9 : iI s10 9 = iI s 9 := fm_iq Fs10 rfl
  have ws10_90 : iI s10 90 = iI s 90 := fm_iq Fs10 rfl
  have ws10_20 : iI s10 20 = iI s 20 := fm_iq Fs10 rfl
  have ws10_98 : iI s10 98 = iI s 98 := fm_iq Fs10 rfl
  have ws10_12 : iI s10 12 = iI s 12 := fm_iq Fs10 rfl
  have ws10_89 : iI s10 89 = iI s 89 := fm_iq Fs10 rfl
  show WS k 895 [(0, .ref q1), (1, .ref (A 0)), (2, .ref (A 179)), (3, .ref (A 517)), (4, .int (Int32.ofInt i))] [.int (Int32.ofInt e11)] (Wd A dT s10) (ce + 1) (sl + 6)
  refine z_store X (lv' := [(5, .int (Int32.ofInt e11)), (0, .ref q1), (1, .ref (A 0)), (2, .ref (A 179)), (3, .ref (A 517)), (4, .int (Int32.ofInt i))]) rfl (by decide) (fun _ h => h) (z_aload_n X (x := A 179) rfl (List.Mem.tail _ (List.Mem.tail _ (List.Mem.tail _ (List.Mem.head _)))) (z_aload_n X (x := q1) rfl (List.Mem.tail _ (List.Mem.head _)) (z_load X (x := i) rfl (List.Mem.tail _ (List.Mem.tail _ (List.Mem.tail _ (List.Mem.tail _ (List.Mem.tail _ (List.Mem.head _)))))) (z_const X rfl (z_add X rfl (z_sld X S hL rfl (show 0 ≤ (i + 1) ∧ (i + 1) < (L : Int) by first | exact sx_in hi (by decide) | omega) ?_))))))
  have sr12 : rng (sc xs (i + 1)) := sc_rng
  refine z_callV X 179 (rm := rmN 244) (As := [.int (Int32.ofInt (sc xs (i + 1)))]) (st := []) rfl rfl (by decide) rfl (by rw [E.1, E.2.1, E.2.2.1]; exact k_length G Is10 (by first | exact ⟨sr12.1, sr12.2⟩ | omega)) ⟨by rw [E.2.2.2]; exact (show 7 + 1 ≤ 2048 from oq_4e6106eb), by rw [E.2.2.2]; exact (show 8 + (3 + 11) + 122 ≤ 84000 from oq_38d194b9), by rw [E.2.2.2]; exact (show (ce + 1) + 0 ≤ 601024 by omega), by rw [E.2.2.2]; exact (show (sl + 6) + 0 ≤ 7293034 by omega)⟩ (Nat.le_of_ble_eq_true rfl) (fun vv s13 hq => ?_) (fun ee s13 hq => ?_)
  rotate_left
  · obtain ⟨Is13, Fs13, e14, hv, hrs13, hps13⟩ := hq; cases hv
  obtain ⟨Is13, Fs13, e14, hv, hrs13, hps13⟩ := hq
  cases hv
  have JRLx_s13 : RLx s13 := RLx_fm Fs13 (by decide) JRLx_s10
  have JFEQ_s13 : FEQ s13 := FEQ_fm Fs13 (by decide) JFEQ_s10
  have JARJ_s13 : ARJ s13 := ARJ_fm Fs13 ⟨by decide +kernel, by decide +kernel, by decide +kernel, by decide +kernel, by decide +kernel, by decide +kernel, by decide +kernel, by decide +kernel⟩ JARJ_s10
  have JPTJ_s13 : PTJ s13 := PTJ_fm Fs13 (by decide +kernel) JPTJ_s10
  have ws13_0 : iI s13 0 = iI s10 0 := fm_iq Fs13 rfl
  have ws13_74 : iI s13 74 = iI s10 74 := fm_iq Fs13 rfl
  have ws13_9 : iI s13 9 = iI s10 9 := fm_iq Fs13 rfl
  have ws13_90 : iI s13 90 = iI s10 90 := fm_iq Fs13 rfl
  have ws13_20 : iI s13 20 = iI s10 20 := fm_iq Fs13 rfl
  have ws13_98 : iI s13 98 = iI s10 98 := fm_iq Fs13 rfl
  have ws13_12 : iI s13 12 = iI s10 12 := fm_iq Fs13 rfl
  have ws13_89 : iI s13 89 = iI s10 89 := fm_iq Fs13 rfl
  have wos13 : iO s13 = iO s10 := fm_o Fs13 (by decide)
  show WS k 907 [(5, .int (Int32.ofInt e11)), (0, .ref q1), (1, .ref (A 0)), (2, .ref (A 179)), (3, .ref (A 517)), (4, .int (Int32.ofInt i))] [.int (Int32.ofInt e14)] (Wd A dT s13) (ce + 1) (sl + 6)
  refine z_store X (lv' := [(6, .int (Int32.ofInt e14)), (5, .int (Int32.ofInt e11)), (0, .ref q1), (1, .ref (A 0)), (2, .ref (A 179)), (3, .ref (A 517)), (4, .int (Int32.ofInt i))]) rfl (by decide) (fun _ h => h) (z_goto X (t := 1894) rfl rfl (w_widen (ce' := ce + 29) (sl' := sl + 222) (by first | exact Nat.le_add_right _ _ | exact Nat.add_le_add_left (by decide) _ | omega) (by first | exact Nat.le_add_right _ _ | exact Nat.add_le_add_left (by decide) _ | omega) ?_))
  exact WS_lv (lv := [(0, .ref q1), (1, .ref (A 0)), (2, .ref (A 179)), (3, .ref (A 517)), (4, .int (Int32.ofInt i))]) (List.forall_mem_cons.mpr ⟨(List.Mem.tail _ (List.Mem.tail _ (List.Mem.head _))), (List.forall_mem_cons.mpr ⟨(List.Mem.tail _ (List.Mem.tail _ (List.Mem.tail _ (List.Mem.head _)))), (List.forall_mem_cons.mpr ⟨(List.Mem.tail _ (List.Mem.tail _ (List.Mem.tail _ (List.Mem.tail _ (List.Mem.head _))))), (List.forall_mem_cons.mpr ⟨(List.Mem.tail _ (List.Mem.tail _ (List.Mem.tail _ (List.Mem.tail _ (List.Mem.tail _ (List.Mem.head _)))))), (List.forall_mem_cons.mpr ⟨(List.Mem.tail _ (List.Mem.tail _ (List.Mem.tail _ (List.Mem.tail _ (List.Mem.tail _ (List.Mem.tail _ (List.Mem.head _))))))), (fun q h => absurd h List.not_mem_nil)⟩)⟩)⟩)⟩)⟩) (hk A _ Is13 JRLx_s13 JFEQ_s13 JARJ_s13 JPTJ_s13 (by first | exact oq_f34933ba ws13_89 ws10_89 p1 b8.1 | omega) (by first | exact oq_d7ce4408 ws13_12 ws10_12 p2 | omega) (by first | exact oq_5bcdc35f ws13_74 ws13_0 ws10_74 ws10_0 p3 | omega) (by first | exact oq_5bcdc35f ws13_90 ws13_9 ws10_90 ws10_9 p4 | omega) (by first | exact oq_5bcdc35f ws13_98 ws13_20 ws10_98 ws10_20 p5 | omega))
theorem lc_17 (G : GX l s0 D tys a0 dT) (GR : RS0 s0) (SF : SF0 s0) (GT : TXs0 s0) (GW : TXw0 s0) {k : kx_T} (X : AX k 350 dT) (E : kL k = l ∧ kS0 k = s0 ∧ kD k = D ∧ kR k = room_1) {q1 L : Nat} {xs : Nat → Int32} (S : SX k q1 L xs) (hL : L ≤ 3072) (I : Bd s) (jR : RLx s) (jFEQ : FEQ s) (jARJ : ARJ s) (jPTJ : PTJ s) (p1 : iI s 89 = 1) (p2 : iI s 12 ≤ 8) (p3 : iI s 0 = iI s 74) (p4 : iI s 9 = iI s 90) (p5 : iI s 20 = iI s 98) {i : Int} (hi : 0 ≤ i ∧ i + 6 ≤ (L : Int)) {ce sl : Nat} (hce : ce + 29 ≤ 601024) (hsl : sl + 222 ≤ 7293034) (hk : ∀ (A : Nat → Nat) (t : PS), Bd t → RLx t → FEQ t → ARJ t → PTJ t → iI t 89 = 1 → iI t 12 ≤ 8 → iI t 0 = iI t 74 → iI t 9 = iI t 90 → iI t 20 = iI t 98 → WS k 1894 [(0, .ref q1), (1, .ref (A 0)), (2, .ref (A 179)), (3, .ref (A 517)), (4, .int (Int32.ofInt i))] [] (Wd A dT t) (ce + 29) (sl + 222)) : WS k 912 [(0, .ref q1), (1, .ref (A 0)), (2, .ref (A 179)), (3, .ref (A 517)), (4, .int (Int32.ofInt i))] [] (Wd A dT s) ce sl := by
  have F : Fm [73] [1460, 202, 204, 205, 206, 207, 208, 209, 210, 211, 212, 213, 214, 215, 216, 217, 218, 219, 220, 221, 222, 223, 224, 225, 226, 227, 203] s s := fm_rf _ _ s
  have b1 := bi_0 I
  have b2 := bi_74 I
  have b3 := bi_9 I
  have b4 := bi_90 I
  have b5 := bi_20 I
  have b6 := bi_98 I
  have b7 := bi_12 I
  have b8 := bi_89 I
  refine z_aload_n X (x := A 0) rfl (List.Mem.tail _ (List.Mem.head _)) (z_aload_n X (x := q1) rfl (List.Mem.head _) (z_load X (x := i) rfl (List.Mem.tail _ (List.Mem.tail _ (List.Mem.tail _ (List.Mem.tail _ (List.Mem.head _))))) (z_const X rfl (z_add X rfl (z_sld X S hL rfl (show 0 ≤ (i + 1) ∧ (i + 1) < (L : Int) by first | exact sx_in hi (by decide) | omega) ?_)))))
  have sr9 : rng (sc xs (i + 1)) := sc_rng
  refine z_aload_n X (x := A 517) rfl (List.Mem.tail _ (List.Mem.tail _ (List.Mem.tail _ (List.Mem.head _)))) (z_callL X (rm := rmN 329) (As := [.ref (A 0), .int (Int32.ofInt (sc xs (i + 1))), .ref (A 517)]) (st := []) rfl (by decide) rfl (by rw [E.1, E.2.1, E.2.2.1]; exact lw_edge G I (by omega)) ⟨by rw [E.2.2.2]; exact (show 9 + 1 ≤ 2048 by decide), by rw [E.2.2.2]; exact (show 8 + (4 + 11) + 173 ≤ 84000 by decide), by rw [E.2.2.2]; exact (show ce + 1 ≤ 601024 by first | exact rmo_1 hce (by decide) | exact rmo_2 hce (by decide) | omega), by rw [E.2.2.2]; exact (show sl + 6 ≤ 7293034 by first | exact rmo_1 hsl (by decide) | exact rmo_2 hsl (by decide) | omega)⟩ (Nat.le_of_ble_eq_true rfl) (fun vv A s10 hA2 hq => ?_) (fun ee A s10 hA2 hq => ?_))
  rotate_left
  · obtain ⟨Is10, Fs10, e11, hv, hrs10, hps10⟩ := hq; cases hv
  obtain ⟨Is10, Fs10, e11, hv, hrs10, hps10⟩ := hq
  cases hv
  rw [← hA2 0 (by decide)]
  rw [← hA2 179 (by decide)]
  rw [← hA2 517 (by decide)]
  have JRLx_s10 : RLx s10 := RLx_fm Fs10 (by decide) jR
  have JFEQ_s10 : FEQ s10 := FEQ_fm Fs10 (by decide) jFEQ
  have JARJ_s10 : ARJ s10 := ARJ_fm Fs10 ⟨by decide +kernel, by decide +kernel, by decide +kernel, by decide +kernel, by decide +kernel, by decide +kernel, by decide +kernel, by decide +kernel⟩ jARJ
  have JPTJ_s10 : PTJ s10 := PTJ_fm Fs10 (by decide +kernel) jPTJ
  have ws10_0 : iI s10 0 = iI s 0 := fm_iq Fs10 rfl
  have ws10_74 : iI s10 74 = iI s 74 := fm_iq Fs10 rfl
  have ws10_9 : iI s10 9 = iI s 9 := fm_iq Fs10 rfl
  have ws10_90 : iI s10 90 = iI s 90 := fm_iq Fs10 rfl
  have ws10_20 : iI s10 20 = iI s 20 := fm_iq Fs10 rfl
  have ws10_98 : iI s10 98 = iI s 98 := fm_iq Fs10 rfl
  have ws10_12 : iI s10 12 = iI s 12 := fm_iq Fs10 rfl
  have ws10_89 : iI s10 89 = iI s 89 := fm_iq Fs10 rfl
  show WS k 923 [(0, .ref q1), (1, .ref (A 0)), (2, .ref (A 179)), (3, .ref (A 517)), (4, .int (Int32.ofInt i))] [.int (Int32.ofInt e11)] (Wd A dT s10) (ce + 1) (sl + 6)
  refine z_store X (lv' := [(5, .int (Int32.ofInt e11)), (0, .ref q1), (1, .ref (A 0)), (2, .ref (A 179)), (3, .ref (A 517)), (4, .int (Int32.ofInt i))]) rfl (by decide) (fun _ h => h) (z_aload_n X (x := A 179) rfl (List.Mem.tail _ (List.Mem.tail _ (List.Mem.tail _ (List.Mem.head _)))) (z_aload_n X (x := q1) rfl (List.Mem.tail _ (List.Mem.head _)) (z_load X (x := i) rfl (List.Mem.tail _ (List.Mem.tail _ (List.Mem.tail _ (List.Mem.tail _ (List.Mem.tail _ (List.Mem.head _)))))) (z_const X rfl (z_add X rfl (z_sld X S hL rfl (show 0 ≤ (i + 1) ∧ (i + 1) < (L : Int) by first | exact sx_in hi (by decide) | omega) ?_))))))
  have sr12 : rng (sc xs (i + 1)) := sc_rng
  refine z_callV X 179 (rm := rmN 246) (As := [.int (Int32.ofInt (sc xs (i + 1)))]) (st := []) rfl rfl (by decide) rfl (by rw [E.1, E.2.1, E.2.2.1]; exact k_edge G Is10 JRLx_s10 (by first | exact ⟨sr12.1, sr12.2⟩ | omega)) ⟨by rw [E.2.2.2]; exact (show 11 + 1 ≤ 2048 from oq_dd1cdbfa), by rw [E.2.2.2]; exact (show 8 + (6 + 11) + 212 ≤ 84000 from oq_c1432001), by rw [E.2.2.2]; exact (show (ce + 1) + 0 ≤ 601024 by omega), by rw [E.2.2.2]; exact (show (sl + 6) + 0 ≤ 7293034 by omega)⟩ (Nat.le_of_ble_eq_true rfl) (fun vv s13 hq => ?_) (fun ee s13 hq => ?_)
  rotate_left
  · obtain ⟨Is13, Fs13, JRLx_s13, e14, hv, hrs13, hps13⟩ := hq; cases hv
  obtain ⟨Is13, Fs13, JRLx_s13, e14, hv, hrs13, hps13⟩ := hq
  cases hv
  have JRLx_s13 : RLx s13 := RLx_fm Fs13 (by decide) JRLx_s10
  have JFEQ_s13 : FEQ s13 := FEQ_fm Fs13 (by decide) JFEQ_s10
  have JARJ_s13 : ARJ s13 := ARJ_fm Fs13 ⟨by decide +kernel, by decide +kernel, by decide +kernel, by decide +kernel, by decide +kernel, by decide +kernel, by decide +kernel, by decide +kernel⟩ JARJ_s10
  have JPTJ_s13 : PTJ s13 := PTJ_fm Fs13 (by decide +kernel) JPTJ_s10
  have ws13_0 : iI s13 0 = iI s10 0 := fm_iq Fs13 rfl
  have ws13_74 : iI s13 74 = iI s10 74 := fm_iq Fs13 rfl
  have ws13_9 : iI s13 9 = iI s10 9 := fm_iq Fs13 rfl
  have ws13_90 : iI s13 90 = iI s10 90 := fm_iq Fs13 rfl
  have ws13_20 : iI s13 20 = iI s10 20 := fm_iq Fs13 rfl
  have ws13_98 : iI s13 98 = iI s10 98 := fm_iq Fs13 rfl
  have ws13_12 : iI s13 12 = iI s10 12 := fm_iq Fs13 rfl
  have ws13_89 : iI s13 89 = iI s10 89 := fm_iq Fs13 rfl
  have wos13 : iO s13 = iO s10 := fm_o Fs13 (by decide)
  show WS k 935 [(5, .int (Int32.ofInt e11)), (0, .ref q1), (1, .ref (A 0)), (2, .ref (A 179)), (3, .ref (A 517)), (4, .int (Int32.ofInt i))] [.int (Int32.ofInt e14)] (Wd A dT s13) (ce + 1) (sl + 6)
  refine z_store X (lv' := [(6, .int (Int32.ofInt e14)), (5, .int (Int32.ofInt e11)), (0, .ref q1), (1, .ref (A 0)), (2, .ref (A 179)), (3, .ref (A 517)), (4, .int (Int32.ofInt i))]) rfl (by decide) (fun _ h => h) (z_goto X (t := 1894) rfl rfl (w_widen (ce' := ce + 29) (sl' := sl + 222) (by first | exact Nat.le_add_right _ _ | exact Nat.add_le_add_left (by decide) _ | omega) (by first | exact Nat.le_add_right _ _ | exact Nat.add_le_add_left (by decide) _ | omega) ?_))
  exact WS_lv (lv := [(0, .ref q1), (1, .ref (A 0)), (2, .ref (A 179)), (3, .ref (A 517)), (4, .int (Int32.ofInt i))]) (List.forall_mem_cons.mpr ⟨(List.Mem.tail _ (List.Mem.tail _ (List.Mem.head _))), (List.forall_mem_cons.mpr ⟨(List.Mem.tail _ (List.Mem.tail _ (List.Mem.tail _ (List.Mem.head _)))), (List.forall_mem_cons.mpr ⟨(List.Mem.tail _ (List.Mem.tail _ (List.Mem.tail _ (List.Mem.tail _ (List.Mem.head _))))), (List.forall_mem_cons.mpr ⟨(List.Mem.tail _ (List.Mem.tail _ (List.Mem.tail _ (List.Mem.tail _ (List.Mem.tail _ (List.Mem.head _)))))), (List.forall_mem_cons.mpr ⟨(List.Mem.tail _ (List.Mem.tail _ (List.Mem.tail _ (List.Mem.tail _ (List.Mem.tail _ (List.Mem.tail _ (List.Mem.head _))))))), (fun q h => absurd h List.not_mem_nil)⟩)⟩)⟩)⟩)⟩) (hk A _ Is13 JRLx_s13 JFEQ_s13 JARJ_s13 JPTJ_s13 (by first | exact oq_f34933ba ws13_89 ws10_89 p1 b8.1 | omega) (by first | exact oq_d7ce4408 ws13_12 ws10_12 p2 | omega) (by first | exact oq_5bcdc35f ws13_74 ws13_0 ws10_74 ws10_0 p3 | omega) (by first | exact oq_5bcdc35f ws13_90 ws13_9 ws10_90 ws10_9 p4 | omega) (by first | exact oq_5bcdc35f ws13_98 ws13_20 ws10_98 ws10_20 p5 | omega))
theorem lc_18 (G : GX l s0 D tys a0 dT) (GR : RS0 s0) (SF : SF0 s0) (GT : TXs0 s0) (GW : TXw0 s0) {k : kx_T} (X : AX k 350 dT) (E : kL k = l ∧ kS0 k = s0 ∧ kD k = D ∧ kR k = room_1) {q1 L : Nat} {xs : Nat → Int32} (S : SX k q1 L xs) (hL : L ≤ 3072) (I : Bd s) (jR : RLx s) (jFEQ : FEQ s) (jARJ : ARJ s) (jPTJ : PTJ s) (p1 : iI s 89 = 1) (p2 : iI s 12 ≤ 8) (p3 : iI s 0 = iI s 74) (p4 : iI s 9 = iI s 90) (p5 : iI s 20 = iI s 98) {i : Int} (hi : 0 ≤ i ∧ i + 6 ≤ (L : Int)) {ce sl : Nat} (hce : ce + 29 ≤ 601024) (hsl : sl + 222 ≤ 7293034) (hk : ∀ (A : Nat → Nat) (t : PS), Bd t → RLx t → FEQ t → ARJ t → PTJ t → iI t 89 = 1 → iI t 12 ≤ 8 → iI t 0 = iI t 74 → iI t 9 = iI t 90 → iI t 20 = iI t 98 → WS k 1894 [(0, .ref q1), (1, .ref (A 0)), (2, .ref (A 179)), (3, .ref (A 517)), (4, .int (Int32.ofInt i))] [] (Wd A dT t) (ce + 29) (sl + 222)) : WS k 940 [(0, .ref q1), (1, .ref (A 0)), (2, .ref (A 179)), (3, .ref (A 517)), (4, .int (Int32.ofInt i))] [] (Wd A dT s) ce sl := by
  have F : Fm [22, 23, 24, 73, 77, 75, 78, 79, 80, 81] [33, 26, 27, 28, 29, 30, 31, 32, 20, 202, 204, 205, 206, 207, 208, 209, 210, 211, 212, 213, 214, 215, 216, 217, 218, 219, 220, 221, 222, 223, 224, 225, 226, 227, 203, 161, 230, 231, 232] s s := fm_rf _ _ s
  have b1 := bi_0 I
  have b2 := bi_74 I
  have b3 := bi_9 I
  have b4 := bi_90 I
  have b5 := bi_20 I
  have b6 := bi_98 I
  have b7 := bi_12 I
  have b8 := bi_89 I
  refine z_aload_n X (x := A 0) rfl (List.Mem.tail _ (List.Mem.head _)) ?_
  obtain ⟨U, hU1, hU2, hU3⟩ := air_U jARJ.2.2.2.2.2.1 jARJ.1 jARJ.2.1 jARJ.2.2.1 jARJ.2.2.2.2.1 jARJ.2.2.2.2.2.2.2 (by omega) (by omega)
  refine z_callV X 0 (rm := rmN 153) (As := []) (st := []) rfl rfl (by decide) rfl (by rw [E.1, E.2.1, E.2.2.1]; exact cs_holds6 G I jARJ.2.2.2.2.2.1 jARJ.2.2.2.2.2.2.1 hU1 jPTJ.1 ) ⟨by rw [E.2.2.2]; exact (show 11 + 1 ≤ 2048 from oq_dd1cdbfa), by rw [E.2.2.2]; exact (show 8 + (2 + 11) + 224 ≤ 84000 from oq_b95bb2bf), by rw [E.2.2.2]; exact (show ce + 0 ≤ 601024 by omega), by rw [E.2.2.2]; exact (show sl + 0 ≤ 7293034 by omega)⟩ (Nat.le_of_ble_eq_true rfl) (fun vv s9 hq => ?_) (fun ee s9 hq => ?_)
  rotate_left
  · obtain ⟨Is9, Fs9, e10, hv, hrs9, hps9⟩ := hq; cases hv
  obtain ⟨Is9, Fs9, e10, hv, hrs9, hps9⟩ := hq
  have hps9p := hps9.2
  cases hv
  have JRLx_s9 : RLx s9 := RLx_fm Fs9 (by decide) jR
  have JFEQ_s9 : FEQ s9 := FEQ_fm Fs9 (by decide) jFEQ
  have JARJ_s9 : ARJ s9 := ARJ_fm Fs9 ⟨by decide +kernel, by decide +kernel, by decide +kernel, by decide +kernel, by decide +kernel, by decide +kernel, by decide +kernel, by decide +kernel⟩ jARJ
  have JPTJ_s9 : PTJ s9 := PTJ_fm Fs9 (by decide +kernel) jPTJ
  have JMDJ_s9 : MDJ U s9 := MDJ_fm Fs9 (by decide +kernel) hU2
  have ws9_0 : iI s9 0 = iI s 0 := fm_iq Fs9 rfl
  have ws9_74 : iI s9 74 = iI s 74 := fm_iq Fs9 rfl
  have ws9_9 : iI s9 9 = iI s 9 := fm_iq Fs9 rfl
  have ws9_90 : iI s9 90 = iI s 90 := fm_iq Fs9 rfl
  have ws9_20 : iI s9 20 = iI s 20 := fm_iq Fs9 rfl
  have ws9_98 : iI s9 98 = iI s 98 := fm_iq Fs9 rfl
  have ws9_12 : iI s9 12 = iI s 12 := fm_iq Fs9 rfl
  have ws9_89 : iI s9 89 = iI s 89 := fm_iq Fs9 rfl
  have wos9 : iO s9 = iO s := fm_o Fs9 (by decide)
  show WS k 944 [(0, .ref q1), (1, .ref (A 0)), (2, .ref (A 179)), (3, .ref (A 517)), (4, .int (Int32.ofInt i))] [.int (Int32.ofInt e10)] (Wd A dT s9) ce sl
  refine w_pop X.1 (ax_d X (show cdA 350 944 = some (.pop, 1, 0, 0, 0) from rfl)) rfl (z_aload_n X (x := A 179) rfl (List.Mem.tail _ (List.Mem.tail _ (List.Mem.head _))) (z_callV X 179 (rm := rmN 247) (As := []) (st := []) rfl rfl (by decide) rfl (by rw [E.1, E.2.1, E.2.2.1]; exact k_holds6 G Is9 JRLx_s9 JMDJ_s9 (by first | exact oq_b44a1c7f ws9_89 p1 b8.1 | omega)) ⟨by rw [E.2.2.2]; exact (show 39 + 1 ≤ 2048 from oq_dead3895), by rw [E.2.2.2]; exact (show 8 + (2 + 11) + 1622 ≤ 84000 from oq_2450e786), by rw [E.2.2.2]; exact (show ce + 0 ≤ 601024 by first | (clear hps9; omega) | omega), by rw [E.2.2.2]; exact (show sl + 0 ≤ 7293034 by first | (clear hps9; omega) | omega)⟩ (Nat.le_of_ble_eq_true rfl) (fun vv s11 hq => ?_) (fun ee s11 hq => ?_)))
  rotate_left
  · obtain ⟨Is11, Fs11, JRLx_s11, e12, hv, hrs11, hps11⟩ := hq; cases hv
  obtain ⟨Is11, Fs11, JRLx_s11, e12, hv, hrs11, hps11⟩ := hq
  have hps11p := And.intro hps11.2.1 (hps11.2.2)
  cases hv
  have JRLx_s11 : RLx s11 := RLx_fm Fs11 (by decide) JRLx_s9
  have JFEQ_s11 : FEQ s11 := FEQ_fm Fs11 (by decide) JFEQ_s9
  have JARJ_s11 : ARJ s11 := ARJ_fm Fs11 ⟨by decide +kernel, by decide +kernel, by decide +kernel, by decide +kernel, by decide +kernel, by decide +kernel, by decide +kernel, by decide +kernel⟩ JARJ_s9
  have JPTJ_s11 : PTJ s11 := PTJ_fm Fs11 (by decide +kernel) JPTJ_s9
  have ws11_0 : iI s11 0 = iI s9 0 := fm_iq Fs11 rfl
  have ws11_74 : iI s11 74 = iI s9 74 := fm_iq Fs11 rfl
  have ws11_9 : iI s11 9 = iI s9 9 := fm_iq Fs11 rfl
  have ws11_90 : iI s11 90 = iI s9 90 := fm_iq Fs11 rfl
  have ws11_20 : iI s11 20 = iI s9 20 := fm_iq Fs11 rfl
  have ws11_98 : iI s11 98 = iI s9 98 := fm_iq Fs11 rfl
  have ws11_12 : iI s11 12 = iI s9 12 := fm_iq Fs11 rfl
  have ws11_89 : iI s11 89 = iI s9 89 := fm_iq Fs11 rfl
  have wos11 : iO s11 = iO s9 := fm_o Fs11 (by decide)
  show WS k 949 [(0, .ref q1), (1, .ref (A 0)), (2, .ref (A 179)), (3, .ref (A 517)), (4, .int (Int32.ofInt i))] [.int (Int32.ofInt e12)] (Wd A dT s11) ce sl
  have cc := hps9
  ·
    have mm := hps11
    ·
      have rq13 := hle_eq (fun j hj => (jPTJ.2.1 j hj).trans ((sam_fm Fs9 (by decide +kernel) : SAM 228 _ _) j).symm) (fun j hj => (jPTJ.2.2.1 j hj).trans ((sam_fm Fs9 (by decide +kernel) : SAM 229 _ _) j).symm) cc.2 mm.2.2
      refine w_pop X.1 (ax_d X (show cdA 350 949 = some (.pop, 1, 0, 0, 0) from rfl)) rfl (z_goto X (t := 1894) rfl rfl (w_widen (ce' := ce + 29) (sl' := sl + 222) (by first | exact Nat.le_add_right _ _ | exact Nat.add_le_add_left (by decide) _ | omega) (by first | exact Nat.le_add_right _ _ | exact Nat.add_le_add_left (by decide) _ | omega) ?_))
      exact WS_lv (lv := [(0, .ref q1), (1, .ref (A 0)), (2, .ref (A 179)), (3, .ref (A 517)), (4, .int (Int32.ofInt i))]) (List.forall_mem_cons.mpr ⟨(List.Mem.head _), (List.forall_mem_cons.mpr ⟨(List.Mem.tail _ (List.Mem.head _)), (List.forall_mem_cons.mpr ⟨(List.Mem.tail _ (List.Mem.tail _ (List.Mem.head _))), (List.forall_mem_cons.mpr ⟨(List.Mem.tail _ (List.Mem.tail _ (List.Mem.tail _ (List.Mem.head _)))), (List.forall_mem_cons.mpr ⟨(List.Mem.tail _ (List.Mem.tail _ (List.Mem.tail _ (List.Mem.tail _ (List.Mem.head _))))), (fun q h => absurd h List.not_mem_nil)⟩)⟩)⟩)⟩)⟩) (hk A _ Is11 JRLx_s11 JFEQ_s11 JARJ_s11 JPTJ_s11 (by first | exact oq_f34933ba ws11_89 ws9_89 p1 b8.1 | omega) (by first | exact oq_d7ce4408 ws11_12 ws9_12 p2 | omega) (by first | exact oq_5bcdc35f ws11_74 ws11_0 ws9_74 ws9_0 p3 | omega) (by first | exact oq_5bcdc35f ws11_90 ws11_9 ws9_90 ws9_9 p4 | omega) (by first | exact oq_5bcdc35f ws11_98 ws11_20 ws9_98 ws9_20 p5 | omega))
theorem lc_19 (G : GX l s0 D tys a0 dT) (GR : RS0 s0) (SF : SF0 s0) (GT : TXs0 s0) (GW : TXw0 s0) {k : kx_T} (X : AX k 350 dT) (E : kL k = l ∧ kS0 k = s0 ∧ kD k = D ∧ kR k = room_1) {q1 L : Nat} {xs : Nat → Int32} (S : SX k q1 L xs) (hL : L ≤ 3072) (I : Bd s) (jR : RLx s) (jFEQ : FEQ s) (jARJ : ARJ s) (jPTJ : PTJ s) (p1 : iI s 89 = 1) (p2 : iI s 12 ≤ 8) (p3 : iI s 0 = iI s 74) (p4 : iI s 9 = iI s 90) (p5 : iI s 20 = iI s 98) {i : Int} (hi : 0 ≤ i ∧ i + 6 ≤ (L : Int)) {ce sl : Nat} (hce : ce + 29 ≤ 601024) (hsl : sl + 222 ≤ 7293034) (hk : ∀ (A : Nat → Nat) (t : PS), Bd t → RLx t → FEQ t → ARJ t → PTJ t → iI t 89 = 1 → iI t 12 ≤ 8 → iI t 0 = iI t 74 → iI t 9 = iI t 90 → iI t 20 = iI t 98 → WS k 1894 [(0, .ref q1), (1, .ref (A 0)), (2, .ref (A 179)), (3, .ref (A 517)), (4, .int (Int32.ofInt i))] [] (Wd A dT t) (ce + 29) (sl + 222)) : WS k 953 [(0, .ref q1), (1, .ref (A 0)), (2, .ref (A 179)), (3, .ref (A 517)), (4, .int (Int32.ofInt i))] [] (Wd A dT s) ce sl := by
  have F : Fm [22, 23, 24, 73, 77, 75, 78, 79, 80, 81] [33, 26, 27, 28, 29, 30, 31, 32, 20, 36, 37, 35, 202, 204, 205, 206, 207, 208, 209, 210, 211, 212, 213, 214, 215, 216, 217, 218, 219, 220, 221, 222, 223, 224, 225, 226, 227, 203, 161, 230, 233] s s := fm_rf _ _ s
  have b1 := bi_0 I
  have b2 := bi_74 I
  have b3 := bi_9 I
  have b4 := bi_90 I
  have b5 := bi_20 I
  have b6 := bi_98 I
  have b7 := bi_12 I
  have b8 := bi_89 I
  refine z_aload_n X (x := A 0) rfl (List.Mem.tail _ (List.Mem.head _)) ?_
  obtain ⟨U, hU1, hU2, hU3⟩ := air_U jARJ.2.2.2.2.2.1 jARJ.1 jARJ.2.1 jARJ.2.2.1 jARJ.2.2.2.2.1 jARJ.2.2.2.2.2.2.2 (by omega) (by omega)
  refine z_callV X 0 (rm := rmN 154) (As := []) (st := []) rfl rfl (by decide) rfl (by rw [E.1, E.2.1, E.2.2.1]; exact cs_cost6 G I jARJ.2.2.2.2.2.1 jARJ.2.2.2.2.2.2.1 hU1 jPTJ.1 ) ⟨by rw [E.2.2.2]; exact (show 12 + 1 ≤ 2048 from oq_f781d9f4), by rw [E.2.2.2]; exact (show 8 + (1 + 11) + 237 ≤ 84000 from oq_d9c24595), by rw [E.2.2.2]; exact (show ce + 0 ≤ 601024 by omega), by rw [E.2.2.2]; exact (show sl + 0 ≤ 7293034 by omega)⟩ (Nat.le_of_ble_eq_true rfl) (fun vv s9 hq => ?_) (fun ee s9 hq => ?_)
  rotate_left
  · obtain ⟨Is9, Fs9, e10, hv, hrs9, hps9⟩ := hq; cases hv
  obtain ⟨Is9, Fs9, e10, hv, hrs9, hps9⟩ := hq
  cases hv
  have JRLx_s9 : RLx s9 := RLx_fm Fs9 (by decide) jR
  have JFEQ_s9 : FEQ s9 := FEQ_fm Fs9 (by decide) jFEQ
  have JARJ_s9 : ARJ s9 := ARJ_fm Fs9 ⟨by decide +kernel, by decide +kernel, by decide +kernel, by decide +kernel, by decide +kernel, by decide +kernel, by decide +kernel, by decide +kernel⟩ jARJ
  have JPTJ_s9 : PTJ s9 := PTJ_fm Fs9 (by decide +kernel) jPTJ
  have JMDJ_s9 : MDJ U s9 := MDJ_fm Fs9 (by decide +kernel) hU2
  have ws9_0 : iI s9 0 = iI s 0 := fm_iq Fs9 rfl
  have ws9_74 : iI s9 74 = iI s 74 := fm_iq Fs9 rfl
  have ws9_9 : iI s9 9 = iI s 9 := fm_iq Fs9 rfl
  have ws9_90 : iI s9 90 = iI s 90 := fm_iq Fs9 rfl
  have ws9_20 : iI s9 20 = iI s 20 := fm_iq Fs9 rfl
  have ws9_98 : iI s9 98 = iI s 98 := fm_iq Fs9 rfl
  have ws9_12 : iI s9 12 = iI s 12 := fm_iq Fs9 rfl
  have ws9_89 : iI s9 89 = iI s 89 := fm_iq Fs9 rfl
  have wos9 : iO s9 = iO s := fm_o Fs9 (by decide)
  show WS k 957 [(0, .ref q1), (1, .ref (A 0)), (2, .ref (A 179)), (3, .ref (A 517)), (4, .int (Int32.ofInt i))] [.int (Int32.ofInt e10)] (Wd A dT s9) ce sl
  refine w_pop X.1 (ax_d X (show cdA 350 957 = some (.pop, 1, 0, 0, 0) from rfl)) rfl (z_aload_n X (x := A 179) rfl (List.Mem.tail _ (List.Mem.tail _ (List.Mem.head _))) (z_callV X 179 (rm := rmN 253) (As := []) (st := []) rfl rfl (by decide) rfl (by rw [E.1, E.2.1, E.2.2.1]; exact k_cost6 G Is9 JRLx_s9 JMDJ_s9 (by first | exact oq_b44a1c7f ws9_89 p1 b8.1 | omega)) ⟨by rw [E.2.2.2]; exact (show 41 + 1 ≤ 2048 from oq_2c2f0271), by rw [E.2.2.2]; exact (show 8 + (1 + 11) + 1663 ≤ 84000 from oq_260410fd), by rw [E.2.2.2]; exact (show ce + 0 ≤ 601024 by omega), by rw [E.2.2.2]; exact (show sl + 0 ≤ 7293034 by omega)⟩ (Nat.le_of_ble_eq_true rfl) (fun vv s11 hq => ?_) (fun ee s11 hq => ?_)))
  rotate_left
  · obtain ⟨Is11, Fs11, JRLx_s11, e12, hv, hrs11, hps11⟩ := hq; cases hv
  obtain ⟨Is11, Fs11, JRLx_s11, e12, hv, hrs11, hps11⟩ := hq
  cases hv
  have JRLx_s11 : RLx s11 := RLx_fm Fs11 (by decide) JRLx_s9
  have JFEQ_s11 : FEQ s11 := FEQ_fm Fs11 (by decide) JFEQ_s9
  have JARJ_s11 : ARJ s11 := ARJ_fm Fs11 ⟨by decide +kernel, by decide +kernel, by decide +kernel, by decide +kernel, by decide +kernel, by decide +kernel, by decide +kernel, by decide +kernel⟩ JARJ_s9
  have JPTJ_s11 : PTJ s11 := PTJ_fm Fs11 (by decide +kernel) JPTJ_s9
  have ws11_0 : iI s11 0 = iI s9 0 := fm_iq Fs11 rfl
  have ws11_74 : iI s11 74 = iI s9 74 := fm_iq Fs11 rfl
  have ws11_9 : iI s11 9 = iI s9 9 := fm_iq Fs11 rfl
  have ws11_90 : iI s11 90 = iI s9 90 := fm_iq Fs11 rfl
  have ws11_20 : iI s11 20 = iI s9 20 := fm_iq Fs11 rfl
  have ws11_98 : iI s11 98 = iI s9 98 := fm_iq Fs11 rfl
  have ws11_12 : iI s11 12 = iI s9 12 := fm_iq Fs11 rfl
  have ws11_89 : iI s11 89 = iI s9 89 := fm_iq Fs11 rfl
  have wos11 : iO s11 = iO s9 := fm_o Fs11 (by decide)
  show WS k 962 [(0, .ref q1), (1, .ref (A 0)), (2, .ref (A 179)), (3, .ref (A 517)), (4, .int (Int32.ofInt i))] [.int (Int32.ofInt e12)] (Wd A dT s11) ce sl
  have cc := hps9
  ·
    have mm := hps11
    ·
      have rq13 := cst_eq (u_wok jARJ.2.2.2.2.2.1 hU1) (fun j hj => (jPTJ.2.1 j hj).trans ((sam_fm Fs9 (by decide +kernel) : SAM 228 _ _) j).symm) cc mm.1
      refine w_pop X.1 (ax_d X (show cdA 350 962 = some (.pop, 1, 0, 0, 0) from rfl)) rfl (z_goto X (t := 1894) rfl rfl (w_widen (ce' := ce + 29) (sl' := sl + 222) (by first | exact Nat.le_add_right _ _ | exact Nat.add_le_add_left (by decide) _ | omega) (by first | exact Nat.le_add_right _ _ | exact Nat.add_le_add_left (by decide) _ | omega) ?_))
      exact WS_lv (lv := [(0, .ref q1), (1, .ref (A 0)), (2, .ref (A 179)), (3, .ref (A 517)), (4, .int (Int32.ofInt i))]) (List.forall_mem_cons.mpr ⟨(List.Mem.head _), (List.forall_mem_cons.mpr ⟨(List.Mem.tail _ (List.Mem.head _)), (List.forall_mem_cons.mpr ⟨(List.Mem.tail _ (List.Mem.tail _ (List.Mem.head _))), (List.forall_mem_cons.mpr ⟨(List.Mem.tail _ (List.Mem.tail _ (List.Mem.tail _ (List.Mem.head _)))), (List.forall_mem_cons.mpr ⟨(List.Mem.tail _ (List.Mem.tail _ (List.Mem.tail _ (List.Mem.tail _ (List.Mem.head _))))), (fun q h => absurd h List.not_mem_nil)⟩)⟩)⟩)⟩)⟩) (hk A _ Is11 JRLx_s11 JFEQ_s11 JARJ_s11 JPTJ_s11 (by first | exact oq_f34933ba ws11_89 ws9_89 p1 b8.1 | omega) (by first | exact oq_d7ce4408 ws11_12 ws9_12 p2 | omega) (by first | exact oq_5bcdc35f ws11_74 ws11_0 ws9_74 ws9_0 p3 | omega) (by first | exact oq_5bcdc35f ws11_90 ws11_9 ws9_90 ws9_9 p4 | omega) (by first | exact oq_5bcdc35f ws11_98 ws11_20 ws9_98 ws9_20 p5 | omega))
theorem lc_20 (G : GX l s0 D tys a0 dT) (GR : RS0 s0) (SF : SF0 s0) (GT : TXs0 s0) (GW : TXw0 s0) {k : kx_T} (X : AX k 350 dT) (E : kL k = l ∧ kS0 k = s0 ∧ kD k = D ∧ kR k = room_1) {q1 L : Nat} {xs : Nat → Int32} (S : SX k q1 L xs) (hL : L ≤ 3072) (I : Bd s) (jR : RLx s) (jFEQ : FEQ s) (jARJ : ARJ s) (jPTJ : PTJ s) (p1 : iI s 89 = 1) (p2 : iI s 12 ≤ 8) (p3 : iI s 0 = iI s 74) (p4 : iI s 9 = iI s 90) (p5 : iI s 20 = iI s 98) {i : Int} (hi : 0 ≤ i ∧ i + 6 ≤ (L : Int)) {ce sl : Nat} (hce : ce + 29 ≤ 601024) (hsl : sl + 222 ≤ 7293034) (hk : ∀ (A : Nat → Nat) (t : PS), Bd t → RLx t → FEQ t → ARJ t → PTJ t → iI t 89 = 1 → iI t 12 ≤ 8 → iI t 0 = iI t 74 → iI t 9 = iI t 90 → iI t 20 = iI t 98 → WS k 1894 [(0, .ref q1), (1, .ref (A 0)), (2, .ref (A 179)), (3, .ref (A 517)), (4, .int (Int32.ofInt i))] [] (Wd A dT t) (ce + 29) (sl + 222)) : WS k 966 [(0, .ref q1), (1, .ref (A 0)), (2, .ref (A 179)), (3, .ref (A 517)), (4, .int (Int32.ofInt i))] [] (Wd A dT s) ce sl := by
  have F : Fm [22, 23, 24, 25, 26, 27, 73, 77, 75, 78, 79, 80, 81, 92, 93, 94] [33, 26, 27, 28, 29, 30, 31, 32, 20, 36, 37, 21, 35, 38, 1022, 1023, 1460, 202, 204, 205, 206, 207, 208, 209, 210, 211, 212, 213, 214, 215, 216, 217, 218, 219, 220, 221, 222, 223, 224, 225, 226, 227, 203, 161, 230, 233, 231, 232, 228] s s := fm_rf _ _ s
  have b1 := bi_0 I
  have b2 := bi_74 I
  have b3 := bi_9 I
  have b4 := bi_90 I
  have b5 := bi_20 I
  have b6 := bi_98 I
  have b7 := bi_12 I
  have b8 := bi_89 I
  refine z_aload_n X (x := A 0) rfl (List.Mem.tail _ (List.Mem.head _)) (z_aload_n X (x := q1) rfl (List.Mem.head _) (z_load X (x := i) rfl (List.Mem.tail _ (List.Mem.tail _ (List.Mem.tail _ (List.Mem.tail _ (List.Mem.head _))))) (z_const X rfl (z_add X rfl (z_sld X S hL rfl (show 0 ≤ (i + 1) ∧ (i + 1) < (L : Int) by first | exact sx_in hi (by decide) | omega) ?_)))))
  have sr9 : rng (sc xs (i + 1)) := sc_rng
  refine z_aload_n X (x := A 517) rfl (List.Mem.tail _ (List.Mem.tail _ (List.Mem.tail _ (List.Mem.head _)))) ?_
  obtain ⟨U, hU1, hU2, hU3⟩ := air_U jARJ.2.2.2.2.2.1 jARJ.1 jARJ.2.1 jARJ.2.2.1 jARJ.2.2.2.2.1 jARJ.2.2.2.2.2.2.2 (by omega) (by omega)
  refine z_callL X (rm := rmN 330) (As := [.ref (A 0), .int (Int32.ofInt (sc xs (i + 1))), .ref (A 517)]) (st := []) rfl (by decide) rfl (by rw [E.1, E.2.1, E.2.2.1]; exact lw_better6 G I jARJ.2.2.2.2.2.1 jARJ.2.2.2.2.2.2.1 hU1 jPTJ.1 hU3 (by omega)) ⟨by rw [E.2.2.2]; exact (show 14 + 1 ≤ 2048 by decide), by rw [E.2.2.2]; exact (show 8 + (4 + 11) + 289 ≤ 84000 by decide), by rw [E.2.2.2]; exact (show ce + 1 ≤ 601024 by first | exact rmo_1 hce (by decide) | exact rmo_2 hce (by decide) | omega), by rw [E.2.2.2]; exact (show sl + 6 ≤ 7293034 by first | exact rmo_1 hsl (by decide) | exact rmo_2 hsl (by decide) | omega)⟩ (Nat.le_of_ble_eq_true rfl) (fun vv A s10 hA2 hq => ?_) (fun ee A s10 hA2 hq => ?_)
  rotate_left
  · obtain ⟨Is10, Fs10, JPMJ_s10, e11, hv, hrs10, hps10⟩ := hq; cases hv
  obtain ⟨Is10, Fs10, JPMJ_s10, e11, hv, hrs10, hps10⟩ := hq
  cases hv
  rw [← hA2 0 (by decide)]
  rw [← hA2 179 (by decide)]
  rw [← hA2 517 (by decide)]
  have JRLx_s10 : RLx s10 := RLx_fm Fs10 (by decide) jR
  have JFEQ_s10 : FEQ s10 := FEQ_fm Fs10 (by decide) jFEQ
  have JARJ_s10 : ARJ s10 := ARJ_fm Fs10 ⟨by decide +kernel, by decide +kernel, by decide +kernel, by decide +kernel, by decide +kernel, by decide +kernel, by decide +kernel, by decide +kernel⟩ jARJ
  have JALJ_s10 : AEQ 24 229 8 s10 := ALJ_fm Fs10 (by decide) jPTJ.2.2.1
  have JMKJ_s10 : MKJ s10 := MKJ_fm Fs10 (by decide +kernel) jPTJ.2.2.2
  have JMDJ_s10 : MDJ U s10 := MDJ_fm Fs10 (by decide +kernel) hU2
  have ws10_0 : iI s10 0 = iI s 0 := fm_iq Fs10 rfl
  have ws10_74 : iI s10 74 = iI s 74 := fm_iq Fs10 rfl
  have ws10_9 : iI s10 9 = iI s 9 := fm_iq Fs10 rfl
  have ws10_90 : iI s10 90 = iI s 90 := fm_iq Fs10 rfl
  have ws10_20 : iI s10 20 = iI s 20 := fm_iq Fs10 rfl
  have ws10_98 : iI s10 98 = iI s 98 := fm_iq Fs10 rfl
  have ws10_12 : iI s10 12 = iI s 12 := fm_iq Fs10 rfl
  have ws10_89 : iI s10 89 = iI s 89 := fm_iq Fs10 rfl
  show WS k 977 [(0, .ref q1), (1, .ref (A 0)), (2, .ref (A 179)), (3, .ref (A 517)), (4, .int (Int32.ofInt i))] [.int (Int32.ofInt e11)] (Wd A dT s10) (ce + 1) (sl + 6)
  refine z_store X (lv' := [(5, .int (Int32.ofInt e11)), (0, .ref q1), (1, .ref (A 0)), (2, .ref (A 179)), (3, .ref (A 517)), (4, .int (Int32.ofInt i))]) rfl (by decide) (fun _ h => h) (z_aload_n X (x := A 179) rfl (List.Mem.tail _ (List.Mem.tail _ (List.Mem.tail _ (List.Mem.head _)))) (z_aload_n X (x := q1) rfl (List.Mem.tail _ (List.Mem.head _)) (z_load X (x := i) rfl (List.Mem.tail _ (List.Mem.tail _ (List.Mem.tail _ (List.Mem.tail _ (List.Mem.tail _ (List.Mem.head _)))))) (z_const X rfl (z_add X rfl (z_sld X S hL rfl (show 0 ≤ (i + 1) ∧ (i + 1) < (L : Int) by first | exact sx_in hi (by decide) | omega) ?_))))))
  have sr12 : rng (sc xs (i + 1)) := sc_rng
  refine z_callV X 179 (rm := rmN 256) (As := [.int (Int32.ofInt (sc xs (i + 1)))]) (st := []) rfl rfl (by decide) rfl (by rw [E.1, E.2.1, E.2.2.1]; exact k_better6 G Is10 JRLx_s10 JMDJ_s10 (by first | exact ⟨sr12.1, sr12.2⟩ | omega) (by first | exact oq_b44a1c7f ws10_89 p1 b8.1 | omega)) ⟨by rw [E.2.2.2]; exact (show 42 + 1 ≤ 2048 from oq_38aede7b), by rw [E.2.2.2]; exact (show 8 + (2 + 11) + 1687 ≤ 84000 from oq_b5fdcedd), by rw [E.2.2.2]; exact (show (ce + 1) + 0 ≤ 601024 by first | (clear hps10; omega) | omega), by rw [E.2.2.2]; exact (show (sl + 6) + 0 ≤ 7293034 by first | (clear hps10; omega) | omega)⟩ (Nat.le_of_ble_eq_true rfl) (fun vv s13 hq => ?_) (fun ee s13 hq => ?_)
  rotate_left
  · obtain ⟨Is13, Fs13, JRLx_s13, e14, hv, hrs13, hps13⟩ := hq; cases hv
  obtain ⟨Is13, Fs13, JRLx_s13, e14, hv, hrs13, hps13⟩ := hq
  cases hv
  have JRLx_s13 : RLx s13 := RLx_fm Fs13 (by decide) JRLx_s10
  have JFEQ_s13 : FEQ s13 := FEQ_fm Fs13 (by decide) JFEQ_s10
  have JARJ_s13 : ARJ s13 := ARJ_fm Fs13 ⟨by decide +kernel, by decide +kernel, by decide +kernel, by decide +kernel, by decide +kernel, by decide +kernel, by decide +kernel, by decide +kernel⟩ JARJ_s10
  have JALJ_s13 : AEQ 24 229 8 s13 := ALJ_fm Fs13 (by decide) JALJ_s10
  have JMKJ_s13 : MKJ s13 := MKJ_fm Fs13 (by decide +kernel) JMKJ_s10
  have JPMJ_s13 : PMJ s13 := PMJ_fm Fs13 (by decide +kernel) JPMJ_s10
  have ws13_0 : iI s13 0 = iI s10 0 := fm_iq Fs13 rfl
  have ws13_74 : iI s13 74 = iI s10 74 := fm_iq Fs13 rfl
  have ws13_9 : iI s13 9 = iI s10 9 := fm_iq Fs13 rfl
  have ws13_90 : iI s13 90 = iI s10 90 := fm_iq Fs13 rfl
  have ws13_20 : iI s13 20 = iI s10 20 := fm_iq Fs13 rfl
  have ws13_98 : iI s13 98 = iI s10 98 := fm_iq Fs13 rfl
  have ws13_12 : iI s13 12 = iI s10 12 := fm_iq Fs13 rfl
  have ws13_89 : iI s13 89 = iI s10 89 := fm_iq Fs13 rfl
  have wos13 : iO s13 = iO s10 := fm_o Fs13 (by decide)
  show WS k 989 [(5, .int (Int32.ofInt e11)), (0, .ref q1), (1, .ref (A 0)), (2, .ref (A 179)), (3, .ref (A 517)), (4, .int (Int32.ofInt i))] [.int (Int32.ofInt e14)] (Wd A dT s13) (ce + 1) (sl + 6)
  rcases hps10 with cc | cc
  ·
    rcases hps13 with mm | mm
    ·
      have rq15 := bte_eq (u_wok jARJ.2.2.2.2.2.1 hU1) (fun j hj => (jPTJ.2.1 j hj).trans ((sam_fm Fs10 (by decide +kernel) : SAM 228 _ _) j).symm) (fun j hj => (jPTJ.2.2.1 j hj).trans ((sam_fm Fs10 (by decide +kernel) : SAM 229 _ _) j).symm) (fun j hj => I.2 21 j hj) cc.2.2.2.2 mm.2.2.2.2.2
      have jb16 : PTJ s13 := ⟨JPMJ_s13, aeq_sam jPTJ.2.1 (sam_ts cc.2.2.2.1 (sam_fm Fs13 (by decide +kernel))) (sam_ts (sam_fm Fs10 (by decide +kernel)) mm.2.2.2.2.1), JALJ_s13, JMKJ_s13⟩
      refine z_store X (lv' := [(6, .int (Int32.ofInt e14)), (5, .int (Int32.ofInt e11)), (0, .ref q1), (1, .ref (A 0)), (2, .ref (A 179)), (3, .ref (A 517)), (4, .int (Int32.ofInt i))]) rfl (by decide) (fun _ h => h) (z_goto X (t := 1894) rfl rfl (w_widen (ce' := ce + 29) (sl' := sl + 222) (by first | exact Nat.le_add_right _ _ | exact Nat.add_le_add_left (by decide) _ | omega) (by first | exact Nat.le_add_right _ _ | exact Nat.add_le_add_left (by decide) _ | omega) ?_))
      exact WS_lv (lv := [(0, .ref q1), (1, .ref (A 0)), (2, .ref (A 179)), (3, .ref (A 517)), (4, .int (Int32.ofInt i))]) (List.forall_mem_cons.mpr ⟨(List.Mem.tail _ (List.Mem.tail _ (List.Mem.head _))), (List.forall_mem_cons.mpr ⟨(List.Mem.tail _ (List.Mem.tail _ (List.Mem.tail _ (List.Mem.head _)))), (List.forall_mem_cons.mpr ⟨(List.Mem.tail _ (List.Mem.tail _ (List.Mem.tail _ (List.Mem.tail _ (List.Mem.head _))))), (List.forall_mem_cons.mpr ⟨(List.Mem.tail _ (List.Mem.tail _ (List.Mem.tail _ (List.Mem.tail _ (List.Mem.tail _ (List.Mem.head _)))))), (List.forall_mem_cons.mpr ⟨(List.Mem.tail _ (List.Mem.tail _ (List.Mem.tail _ (List.Mem.tail _ (List.Mem.tail _ (List.Mem.tail _ (List.Mem.head _))))))), (fun q h => absurd h List.not_mem_nil)⟩)⟩)⟩)⟩)⟩) (hk A _ Is13 JRLx_s13 JFEQ_s13 JARJ_s13 jb16 (by first | exact oq_f34933ba ws13_89 ws10_89 p1 b8.1 | omega) (by first | exact oq_d7ce4408 ws13_12 ws10_12 p2 | omega) (by first | exact oq_5bcdc35f ws13_74 ws13_0 ws10_74 ws10_0 p3 | omega) (by first | exact oq_5bcdc35f ws13_90 ws13_9 ws10_90 ws10_9 p4 | omega) (by first | exact oq_5bcdc35f ws13_98 ws13_20 ws10_98 ws10_20 p5 | omega))
    ·
      exfalso
      omega
  ·
    rcases hps13 with mm | mm
    ·
      exfalso
      omega
    ·
      have jb17 : PTJ s13 := ⟨JPMJ_s13, aeq_sam jPTJ.2.1 (sam_ts cc.2.2 (sam_fm Fs13 (by decide +kernel))) (sam_ts (sam_fm Fs10 (by decide +kernel)) mm.2.2.1), JALJ_s13, JMKJ_s13⟩
      refine z_store X (lv' := [(6, .int (Int32.ofInt e14)), (5, .int (Int32.ofInt e11)), (0, .ref q1), (1, .ref (A 0)), (2, .ref (A 179)), (3, .ref (A 517)), (4, .int (Int32.ofInt i))]) rfl (by decide) (fun _ h => h) (z_goto X (t := 1894) rfl rfl (w_widen (ce' := ce + 29) (sl' := sl + 222) (by first | exact Nat.le_add_right _ _ | exact Nat.add_le_add_left (by decide) _ | omega) (by first | exact Nat.le_add_right _ _ | exact Nat.add_le_add_left (by decide) _ | omega) ?_))
      exact WS_lv (lv := [(0, .ref q1), (1, .ref (A 0)), (2, .ref (A 179)), (3, .ref (A 517)), (4, .int (Int32.ofInt i))]) (List.forall_mem_cons.mpr ⟨(List.Mem.tail _ (List.Mem.tail _ (List.Mem.head _))), (List.forall_mem_cons.mpr ⟨(List.Mem.tail _ (List.Mem.tail _ (List.Mem.tail _ (List.Mem.head _)))), (List.forall_mem_cons.mpr ⟨(List.Mem.tail _ (List.Mem.tail _ (List.Mem.tail _ (List.Mem.tail _ (List.Mem.head _))))), (List.forall_mem_cons.mpr ⟨(List.Mem.tail _ (List.Mem.tail _ (List.Mem.tail _ (List.Mem.tail _ (List.Mem.tail _ (List.Mem.head _)))))), (List.forall_mem_cons.mpr ⟨(List.Mem.tail _ (List.Mem.tail _ (List.Mem.tail _ (List.Mem.tail _ (List.Mem.tail _ (List.Mem.tail _ (List.Mem.head _))))))), (fun q h => absurd h List.not_mem_nil)⟩)⟩)⟩)⟩)⟩) (hk A _ Is13 JRLx_s13 JFEQ_s13 JARJ_s13 jb17 (by first | exact oq_f34933ba ws13_89 ws10_89 p1 b8.1 | omega) (by first | exact oq_d7ce4408 ws13_12 ws10_12 p2 | omega) (by first | exact oq_5bcdc35f ws13_74 ws13_0 ws10_74 ws10_0 p3 | omega) (by first | exact oq_5bcdc35f ws13_90 ws13_9 ws10_90 ws10_9 p4 | omega) (by first | exact oq_5bcdc35f ws13_98 ws13_20 ws10_98 ws10_20 p5 | omega))
theorem lc_21 (G : GX l s0 D tys a0 dT) (GR : RS0 s0) (SF : SF0 s0) (GT : TXs0 s0) (GW : TXw0 s0) {k : kx_T} (X : AX k 350 dT) (E : kL k = l ∧ kS0 k = s0 ∧ kD k = D ∧ kR k = room_1) {q1 L : Nat} {xs : Nat → Int32} (S : SX k q1 L xs) (hL : L ≤ 3072) (I : Bd s) (jR : RLx s) (jFEQ : FEQ s) (jARJ : ARJ s) (jPTJ : PTJ s) (p1 : iI s 89 = 1) (p2 : iI s 12 ≤ 8) (p3 : iI s 0 = iI s 74) (p4 : iI s 9 = iI s 90) (p5 : iI s 20 = iI s 98) {i : Int} (hi : 0 ≤ i ∧ i + 6 ≤ (L : Int)) {ce sl : Nat} (hce : ce + 29 ≤ 601024) (hsl : sl + 222 ≤ 7293034) (hk : ∀ (A : Nat → Nat) (t : PS), Bd t → RLx t → FEQ t → ARJ t → PTJ t → iI t 89 = 1 → iI t 12 ≤ 8 → iI t 0 = iI t 74 → iI t 9 = iI t 90 → iI t 20 = iI t 98 → WS k 1894 [(0, .ref q1), (1, .ref (A 0)), (2, .ref (A 179)), (3, .ref (A 517)), (4, .int (Int32.ofInt i))] [] (Wd A dT t) (ce + 29) (sl + 222)) : WS k 994 [(0, .ref q1), (1, .ref (A 0)), (2, .ref (A 179)), (3, .ref (A 517)), (4, .int (Int32.ofInt i))] [] (Wd A dT s) ce sl := by
  have F : Fm [22, 23, 24, 25, 26, 27, 73, 77, 75, 78, 79, 80, 81, 92, 93, 94] [33, 26, 27, 28, 29, 30, 31, 32, 20, 36, 37, 21, 35, 38, 1022, 1023, 1460, 202, 204, 205, 206, 207, 208, 209, 210, 211, 212, 213, 214, 215, 216, 217, 218, 219, 220, 221, 222, 223, 224, 225, 226, 227, 203, 161, 230, 233, 231, 232, 228] s s := fm_rf _ _ s
  have b1 := bi_0 I
  have b2 := bi_74 I
  have b3 := bi_9 I
  have b4 := bi_90 I
  have b5 := bi_20 I
  have b6 := bi_98 I
  have b7 := bi_12 I
  have b8 := bi_89 I
  refine z_aload_n X (x := A 0) rfl (List.Mem.tail _ (List.Mem.head _)) (z_aload_n X (x := q1) rfl (List.Mem.head _) (z_load X (x := i) rfl (List.Mem.tail _ (List.Mem.tail _ (List.Mem.tail _ (List.Mem.tail _ (List.Mem.head _))))) (z_const X rfl (z_add X rfl (z_sld X S hL rfl (show 0 ≤ (i + 1) ∧ (i + 1) < (L : Int) by first | exact sx_in hi (by decide) | omega) ?_)))))
  have sr9 : rng (sc xs (i + 1)) := sc_rng
  refine z_aload_n X (x := A 517) rfl (List.Mem.tail _ (List.Mem.tail _ (List.Mem.tail _ (List.Mem.head _)))) ?_
  obtain ⟨U, hU1, hU2, hU3⟩ := air_U jARJ.2.2.2.2.2.1 jARJ.1 jARJ.2.1 jARJ.2.2.1 jARJ.2.2.2.2.1 jARJ.2.2.2.2.2.2.2 (by omega) (by omega)
  refine z_callL X (rm := rmN 331) (As := [.ref (A 0), .int (Int32.ofInt (sc xs (i + 1))), .ref (A 517)]) (st := []) rfl (by decide) rfl (by rw [E.1, E.2.1, E.2.2.1]; exact lw_grow6 G I jARJ.2.2.2.2.2.1 jARJ.2.2.2.2.2.2.1 hU1 jPTJ.1 hU3 (by omega)) ⟨by rw [E.2.2.2]; exact (show 14 + 1 ≤ 2048 by decide), by rw [E.2.2.2]; exact (show 8 + (4 + 11) + 290 ≤ 84000 by decide), by rw [E.2.2.2]; exact (show ce + 1 ≤ 601024 by first | exact rmo_1 hce (by decide) | exact rmo_2 hce (by decide) | omega), by rw [E.2.2.2]; exact (show sl + 6 ≤ 7293034 by first | exact rmo_1 hsl (by decide) | exact rmo_2 hsl (by decide) | omega)⟩ (Nat.le_of_ble_eq_true rfl) (fun vv A s10 hA2 hq => ?_) (fun ee A s10 hA2 hq => ?_)
  rotate_left
  · obtain ⟨Is10, Fs10, JPMJ_s10, e11, hv, hrs10, hps10⟩ := hq; cases hv
  obtain ⟨Is10, Fs10, JPMJ_s10, e11, hv, hrs10, hps10⟩ := hq
  cases hv
  rw [← hA2 0 (by decide)]
  rw [← hA2 179 (by decide)]
  rw [← hA2 517 (by decide)]
  have JRLx_s10 : RLx s10 := RLx_fm Fs10 (by decide) jR
  have JFEQ_s10 : FEQ s10 := FEQ_fm Fs10 (by decide) jFEQ
  have JARJ_s10 : ARJ s10 := ARJ_fm Fs10 ⟨by decide +kernel, by decide +kernel, by decide +kernel, by decide +kernel, by decide +kernel, by decide +kernel, by decide +kernel, by decide +kernel⟩ jARJ
  have JALJ_s10 : AEQ 24 229 8 s10 := ALJ_fm Fs10 (by decide) jPTJ.2.2.1
  have JMKJ_s10 : MKJ s10 := MKJ_fm Fs10 (by decide +kernel) jPTJ.2.2.2
  have JMDJ_s10 : MDJ U s10 := MDJ_fm Fs10 (by decide +kernel) hU2
  have ws10_0 : iI s10 0 = iI s 0 := fm_iq Fs10 rfl
  have ws10_74 : iI s10 74 = iI s 74 := fm_iq Fs10 rfl
  have ws10_9 : iI s10 9 = iI s 9 := fm_iq Fs10 rfl
  have ws10_90 : iI s10 90 = iI s 90 := fm_iq Fs10 rfl
  have ws10_20 : iI s10 20 = iI s 20 := fm_iq Fs10 rfl
  have ws10_98 : iI s10 98 = iI s 98 := fm_iq Fs10 rfl
  have ws10_12 : iI s10 12 = iI s 12 := fm_iq Fs10 rfl
  have ws10_89 : iI s10 89 = iI s 89 := fm_iq Fs10 rfl
  show WS k 1005 [(0, .ref q1), (1, .ref (A 0)), (2, .ref (A 179)), (3, .ref (A 517)), (4, .int (Int32.ofInt i))] [.int (Int32.ofInt e11)] (Wd A dT s10) (ce + 1) (sl + 6)
  refine z_store X (lv' := [(5, .int (Int32.ofInt e11)), (0, .ref q1), (1, .ref (A 0)), (2, .ref (A 179)), (3, .ref (A 517)), (4, .int (Int32.ofInt i))]) rfl (by decide) (fun _ h => h) (z_aload_n X (x := A 179) rfl (List.Mem.tail _ (List.Mem.tail _ (List.Mem.tail _ (List.Mem.head _)))) (z_aload_n X (x := q1) rfl (List.Mem.tail _ (List.Mem.head _)) (z_load X (x := i) rfl (List.Mem.tail _ (List.Mem.tail _ (List.Mem.tail _ (List.Mem.tail _ (List.Mem.tail _ (List.Mem.head _)))))) (z_const X rfl (z_add X rfl (z_sld X S hL rfl (show 0 ≤ (i + 1) ∧ (i + 1) < (L : Int) by first | exact sx_in hi (by decide) | omega) ?_))))))
  have sr12 : rng (sc xs (i + 1)) := sc_rng
  refine z_callV X 179 (rm := rmN 257) (As := [.int (Int32.ofInt (sc xs (i + 1)))]) (st := []) rfl rfl (by decide) rfl (by rw [E.1, E.2.1, E.2.2.1]; exact k_grow3 G Is10 JRLx_s10 JMDJ_s10 (by first | exact ⟨sr12.1, sr12.2⟩ | omega) (by first | exact oq_b44a1c7f ws10_89 p1 b8.1 | omega)) ⟨by rw [E.2.2.2]; exact (show 42 + 1 ≤ 2048 from oq_38aede7b), by rw [E.2.2.2]; exact (show 8 + (3 + 11) + 1687 ≤ 84000 from oq_e190c71b), by rw [E.2.2.2]; exact (show (ce + 1) + 0 ≤ 601024 by first | (clear hps10; omega) | omega), by rw [E.2.2.2]; exact (show (sl + 6) + 0 ≤ 7293034 by first | (clear hps10; omega) | omega)⟩ (Nat.le_of_ble_eq_true rfl) (fun vv s13 hq => ?_) (fun ee s13 hq => ?_)
  rotate_left
  · obtain ⟨Is13, Fs13, JRLx_s13, e14, hv, hrs13, hps13⟩ := hq; cases hv
  obtain ⟨Is13, Fs13, JRLx_s13, e14, hv, hrs13, hps13⟩ := hq
  cases hv
  have JRLx_s13 : RLx s13 := RLx_fm Fs13 (by decide) JRLx_s10
  have JFEQ_s13 : FEQ s13 := FEQ_fm Fs13 (by decide) JFEQ_s10
  have JARJ_s13 : ARJ s13 := ARJ_fm Fs13 ⟨by decide +kernel, by decide +kernel, by decide +kernel, by decide +kernel, by decide +kernel, by decide +kernel, by decide +kernel, by decide +kernel⟩ JARJ_s10
  have JALJ_s13 : AEQ 24 229 8 s13 := ALJ_fm Fs13 (by decide) JALJ_s10
  have JMKJ_s13 : MKJ s13 := MKJ_fm Fs13 (by decide +kernel) JMKJ_s10
  have JPMJ_s13 : PMJ s13 := PMJ_fm Fs13 (by decide +kernel) JPMJ_s10
  have ws13_0 : iI s13 0 = iI s10 0 := fm_iq Fs13 rfl
  have ws13_74 : iI s13 74 = iI s10 74 := fm_iq Fs13 rfl
  have ws13_9 : iI s13 9 = iI s10 9 := fm_iq Fs13 rfl
  have ws13_90 : iI s13 90 = iI s10 90 := fm_iq Fs13 rfl
  have ws13_20 : iI s13 20 = iI s10 20 := fm_iq Fs13 rfl
  have ws13_98 : iI s13 98 = iI s10 98 := fm_iq Fs13 rfl
  have ws13_12 : iI s13 12 = iI s10 12 := fm_iq Fs13 rfl
  have ws13_89 : iI s13 89 = iI s10 89 := fm_iq Fs13 rfl
  have wos13 : iO s13 = iO s10 := fm_o Fs13 (by decide)
  show WS k 1017 [(5, .int (Int32.ofInt e11)), (0, .ref q1), (1, .ref (A 0)), (2, .ref (A 179)), (3, .ref (A 517)), (4, .int (Int32.ofInt i))] [.int (Int32.ofInt e14)] (Wd A dT s13) (ce + 1) (sl + 6)
  rcases hps10 with cc | cc
  ·
    rcases hps13 with mm | mm
    ·
      have hAP := apj_gre jPTJ.2.1 jPTJ.2.2.1 jARJ.2.2.2.2.2.1 hU1 (fun j hj => I.2 21 j hj) cc.2.2.2 mm.2.2.2.2 (sam_fm Fs10 (by decide +kernel)) (sam_fm Fs13 (by decide +kernel)) (sam_fm Fs10 (by decide +kernel))
      have rq15 := hAP.1
      have jb16 : PTJ s13 := ⟨JPMJ_s13, hAP.2, JALJ_s13, JMKJ_s13⟩
      refine z_store X (lv' := [(6, .int (Int32.ofInt e14)), (5, .int (Int32.ofInt e11)), (0, .ref q1), (1, .ref (A 0)), (2, .ref (A 179)), (3, .ref (A 517)), (4, .int (Int32.ofInt i))]) rfl (by decide) (fun _ h => h) (z_goto X (t := 1894) rfl rfl (w_widen (ce' := ce + 29) (sl' := sl + 222) (by first | exact Nat.le_add_right _ _ | exact Nat.add_le_add_left (by decide) _ | omega) (by first | exact Nat.le_add_right _ _ | exact Nat.add_le_add_left (by decide) _ | omega) ?_))
      exact WS_lv (lv := [(0, .ref q1), (1, .ref (A 0)), (2, .ref (A 179)), (3, .ref (A 517)), (4, .int (Int32.ofInt i))]) (List.forall_mem_cons.mpr ⟨(List.Mem.tail _ (List.Mem.tail _ (List.Mem.head _))), (List.forall_mem_cons.mpr ⟨(List.Mem.tail _ (List.Mem.tail _ (List.Mem.tail _ (List.Mem.head _)))), (List.forall_mem_cons.mpr ⟨(List.Mem.tail _ (List.Mem.tail _ (List.Mem.tail _ (List.Mem.tail _ (List.Mem.head _))))), (List.forall_mem_cons.mpr ⟨(List.Mem.tail _ (List.Mem.tail _ (List.Mem.tail _ (List.Mem.tail _ (List.Mem.tail _ (List.Mem.head _)))))), (List.forall_mem_cons.mpr ⟨(List.Mem.tail _ (List.Mem.tail _ (List.Mem.tail _ (List.Mem.tail _ (List.Mem.tail _ (List.Mem.tail _ (List.Mem.head _))))))), (fun q h => absurd h List.not_mem_nil)⟩)⟩)⟩)⟩)⟩) (hk A _ Is13 JRLx_s13 JFEQ_s13 JARJ_s13 jb16 (by first | exact oq_f34933ba ws13_89 ws10_89 p1 b8.1 | omega) (by first | exact oq_d7ce4408 ws13_12 ws10_12 p2 | omega) (by first | exact oq_5bcdc35f ws13_74 ws13_0 ws10_74 ws10_0 p3 | omega) (by first | exact oq_5bcdc35f ws13_90 ws13_9 ws10_90 ws10_9 p4 | omega) (by first | exact oq_5bcdc35f ws13_98 ws13_20 ws10_98 ws10_20 p5 | omega))
    ·
      exfalso
      omega
  ·
    rcases hps13 with mm | mm
    ·
      exfalso
      omega
    ·
      have jb17 : PTJ s13 := ⟨JPMJ_s13, aeq_sam jPTJ.2.1 (sam_ts cc.2.2 (sam_fm Fs13 (by decide +kernel))) (sam_ts (sam_fm Fs10 (by decide +kernel)) mm.2.2.1), JALJ_s13, JMKJ_s13⟩
      refine z_store X (lv' := [(6, .int (Int32.ofInt e14)), (5, .int (Int32.ofInt e11)), (0, .ref q1), (1, .ref (A 0)), (2, .ref (A 179)), (3, .ref (A 517)), (4, .int (Int32.ofInt i))]) rfl (by decide) (fun _ h => h) (z_goto X (t := 1894) rfl rfl (w_widen (ce' := ce + 29) (sl' := sl + 222) (by first | exact Nat.le_add_right _ _ | exact Nat.add_le_add_left (by decide) _ | omega) (by first | exact Nat.le_add_right _ _ | exact Nat.add_le_add_left (by decide) _ | omega) ?_))
      exact WS_lv (lv := [(0, .ref q1), (1, .ref (A 0)), (2, .ref (A 179)), (3, .ref (A 517)), (4, .int (Int32.ofInt i))]) (List.forall_mem_cons.mpr ⟨(List.Mem.tail _ (List.Mem.tail _ (List.Mem.head _))), (List.forall_mem_cons.mpr ⟨(List.Mem.tail _ (List.Mem.tail _ (List.Mem.tail _ (List.Mem.head _)))), (List.forall_mem_cons.mpr ⟨(List.Mem.tail _ (List.Mem.tail _ (List.Mem.tail _ (List.Mem.tail _ (List.Mem.head _))))), (List.forall_mem_cons.mpr ⟨(List.Mem.tail _ (List.Mem.tail _ (List.Mem.tail _ (List.Mem.tail _ (List.Mem.tail _ (List.Mem.head _)))))), (List.forall_mem_cons.mpr ⟨(List.Mem.tail _ (List.Mem.tail _ (List.Mem.tail _ (List.Mem.tail _ (List.Mem.tail _ (List.Mem.tail _ (List.Mem.head _))))))), (fun q h => absurd h List.not_mem_nil)⟩)⟩)⟩)⟩)⟩) (hk A _ Is13 JRLx_s13 JFEQ_s13 JARJ_s13 jb17 (by first | exact oq_f34933ba ws13_89 ws10_89 p1 b8.1 | omega) (by first | exact oq_d7ce4408 ws13_12 ws10_12 p2 | omega) (by first | exact oq_5bcdc35f ws13_74 ws13_0 ws10_74 ws10_0 p3 | omega) (by first | exact oq_5bcdc35f ws13_90 ws13_9 ws10_90 ws10_9 p4 | omega) (by first | exact oq_5bcdc35f ws13_98 ws13_20 ws10_98 ws10_20 p5 | omega))
theorem lc_22 (G : GX l s0 D tys a0 dT) (GR : RS0 s0) (SF : SF0 s0) (GT : TXs0 s0) (GW : TXw0 s0) {k : kx_T} (X : AX k 350 dT) (E : kL k = l ∧ kS0 k = s0 ∧ kD k = D ∧ kR k = room_1) {q1 L : Nat} {xs : Nat → Int32} (S : SX k q1 L xs) (hL : L ≤ 3072) (I : Bd s) (jR : RLx s) (jFEQ : FEQ s) (jARJ : ARJ s) (jPTJ : PTJ s) (p1 : iI s 89 = 1) (p2 : iI s 12 ≤ 8) (p3 : iI s 0 = iI s 74) (p4 : iI s 9 = iI s 90) (p5 : iI s 20 = iI s 98) {i : Int} (hi : 0 ≤ i ∧ i + 6 ≤ (L : Int)) {ce sl : Nat} (hce : ce + 29 ≤ 601024) (hsl : sl + 222 ≤ 7293034) (hk : ∀ (A : Nat → Nat) (t : PS), Bd t → RLx t → FEQ t → ARJ t → PTJ t → iI t 89 = 1 → iI t 12 ≤ 8 → iI t 0 = iI t 74 → iI t 9 = iI t 90 → iI t 20 = iI t 98 → WS k 1894 [(0, .ref q1), (1, .ref (A 0)), (2, .ref (A 179)), (3, .ref (A 517)), (4, .int (Int32.ofInt i))] [] (Wd A dT t) (ce + 29) (sl + 222)) : WS k 1022 [(0, .ref q1), (1, .ref (A 0)), (2, .ref (A 179)), (3, .ref (A 517)), (4, .int (Int32.ofInt i))] [] (Wd A dT s) ce sl := by
  have F : Fm [28, 73, 97] [39, 1460, 234] s s := fm_rf _ _ s
  have b1 := bi_0 I
  have b2 := bi_74 I
  have b3 := bi_9 I
  have b4 := bi_90 I
  have b5 := bi_20 I
  have b6 := bi_98 I
  have b7 := bi_12 I
  have b8 := bi_89 I
  refine z_aload_n X (x := A 0) rfl (List.Mem.tail _ (List.Mem.head _)) (z_aload_n X (x := q1) rfl (List.Mem.head _) (z_load X (x := i) rfl (List.Mem.tail _ (List.Mem.tail _ (List.Mem.tail _ (List.Mem.tail _ (List.Mem.head _))))) (z_const X rfl (z_add X rfl (z_sld X S hL rfl (show 0 ≤ (i + 1) ∧ (i + 1) < (L : Int) by first | exact sx_in hi (by decide) | omega) ?_)))))
  have sr9 : rng (sc xs (i + 1)) := sc_rng
  refine z_aload_n X (x := A 517) rfl (List.Mem.tail _ (List.Mem.tail _ (List.Mem.tail _ (List.Mem.head _)))) (z_callL X (rm := rmN 332) (As := [.ref (A 0), .int (Int32.ofInt (sc xs (i + 1))), .ref (A 517)]) (st := []) rfl (by decide) rfl (by rw [E.1, E.2.1, E.2.2.1]; exact lw_region G I (by omega)) ⟨by rw [E.2.2.2]; exact (show 8 + 1 ≤ 2048 by decide), by rw [E.2.2.2]; exact (show 8 + (4 + 11) + 143 ≤ 84000 by decide), by rw [E.2.2.2]; exact (show ce + 1 ≤ 601024 by first | exact rmo_1 hce (by decide) | exact rmo_2 hce (by decide) | omega), by rw [E.2.2.2]; exact (show sl + 6 ≤ 7293034 by first | exact rmo_1 hsl (by decide) | exact rmo_2 hsl (by decide) | omega)⟩ (Nat.le_of_ble_eq_true rfl) (fun vv A s10 hA2 hq => ?_) (fun ee A s10 hA2 hq => ?_))
  rotate_left
  · obtain ⟨Is10, Fs10, e11, hv, hrs10, hps10⟩ := hq; cases hv
  obtain ⟨Is10, Fs10, e11, hv, hrs10, hps10⟩ := hq
  cases hv
  rw [← hA2 0 (by decide)]
  rw [← hA2 179 (by decide)]
  rw [← hA2 517 (by decide)]
  have JRLx_s10 : RLx s10 := RLx_fm Fs10 (by decide) jR
  have JFEQ_s10 : FEQ s10 := FEQ_fm Fs10 (by decide) jFEQ
  have JARJ_s10 : ARJ s10 := ARJ_fm Fs10 ⟨by decide +kernel, by decide +kernel, by decide +kernel, by decide +kernel, by decide +kernel, by decide +kernel, by decide +kernel, by decide +kernel⟩ jARJ
  have JPTJ_s10 : PTJ s10 := PTJ_fm Fs10 (by decide +kernel) jPTJ
  have ws10_0 : iI s10 0 = iI s 0 := fm_iq Fs10 rfl
  have ws10_74 : iI s10 74 = iI s 74 := fm_iq Fs10 rfl
  have ws10_9 : iI s10 9 = iI s 9 := fm_iq Fs10 rfl
  have ws10_90 : iI s10 90 = iI s 90 := fm_iq Fs10 rfl
  have ws10_20 : iI s10 20 = iI s 20 := fm_iq Fs10 rfl
  have ws10_98 : iI s10 98 = iI s 98 := fm_iq Fs10 rfl
  have ws10_12 : iI s10 12 = iI s 12 := fm_iq Fs10 rfl
  have ws10_89 : iI s10 89 = iI s 89 := fm_iq Fs10 rfl
  show WS k 1033 [(0, .ref q1), (1, .ref (A 0)), (2, .ref (A 179)), (3, .ref (A 517)), (4, .int (Int32.ofInt i))] [.int (Int32.ofInt e11)] (Wd A dT s10) (ce + 1) (sl + 6)
  refine z_store X (lv' := [(5, .int (Int32.ofInt e11)), (0, .ref q1), (1, .ref (A 0)), (2, .ref (A 179)), (3, .ref (A 517)), (4, .int (Int32.ofInt i))]) rfl (by decide) (fun _ h => h) (z_aload_n X (x := A 179) rfl (List.Mem.tail _ (List.Mem.tail _ (List.Mem.tail _ (List.Mem.head _)))) (z_aload_n X (x := q1) rfl (List.Mem.tail _ (List.Mem.head _)) (z_load X (x := i) rfl (List.Mem.tail _ (List.Mem.tail _ (List.Mem.tail _ (List.Mem.tail _ (List.Mem.tail _ (List.Mem.head _)))))) (z_const X rfl (z_add X rfl (z_sld X S hL rfl (show 0 ≤ (i + 1) ∧ (i + 1) < (L : Int) by first | exact sx_in hi (by decide) | omega) ?_))))))
  have sr12 : rng (sc xs (i + 1)) := sc_rng
  refine z_callV X 179 (rm := rmN 258) (As := [.int (Int32.ofInt (sc xs (i + 1)))]) (st := []) rfl rfl (by decide) rfl (by rw [E.1, E.2.1, E.2.2.1]; exact k_region G Is10 (by first | exact ⟨sr12.1, sr12.2⟩ | omega)) ⟨by rw [E.2.2.2]; exact (show 7 + 1 ≤ 2048 from oq_4e6106eb), by rw [E.2.2.2]; exact (show 8 + (3 + 11) + 122 ≤ 84000 from oq_38d194b9), by rw [E.2.2.2]; exact (show (ce + 1) + 0 ≤ 601024 by omega), by rw [E.2.2.2]; exact (show (sl + 6) + 0 ≤ 7293034 by omega)⟩ (Nat.le_of_ble_eq_true rfl) (fun vv s13 hq => ?_) (fun ee s13 hq => ?_)
  rotate_left
  · obtain ⟨Is13, Fs13, e14, hv, hrs13, hps13⟩ := hq; cases hv
  obtain ⟨Is13, Fs13, e14, hv, hrs13, hps13⟩ := hq
  cases hv
  have JRLx_s13 : RLx s13 := RLx_fm Fs13 (by decide) JRLx_s10
  have JFEQ_s13 : FEQ s13 := FEQ_fm Fs13 (by decide) JFEQ_s10
  have JARJ_s13 : ARJ s13 := ARJ_fm Fs13 ⟨by decide +kernel, by decide +kernel, by decide +kernel, by decide +kernel, by decide +kernel, by decide +kernel, by decide +kernel, by decide +kernel⟩ JARJ_s10
  have JPTJ_s13 : PTJ s13 := PTJ_fm Fs13 (by decide +kernel) JPTJ_s10
  have ws13_0 : iI s13 0 = iI s10 0 := fm_iq Fs13 rfl
  have ws13_74 : iI s13 74 = iI s10 74 := fm_iq Fs13 rfl
  have ws13_9 : iI s13 9 = iI s10 9 := fm_iq Fs13 rfl
  have ws13_90 : iI s13 90 = iI s10 90 := fm_iq Fs13 rfl
  have ws13_20 : iI s13 20 = iI s10 20 := fm_iq Fs13 rfl
  have ws13_98 : iI s13 98 = iI s10 98 := fm_iq Fs13 rfl
  have ws13_12 : iI s13 12 = iI s10 12 := fm_iq Fs13 rfl
  have ws13_89 : iI s13 89 = iI s10 89 := fm_iq Fs13 rfl
  have wos13 : iO s13 = iO s10 := fm_o Fs13 (by decide)
  show WS k 1045 [(5, .int (Int32.ofInt e11)), (0, .ref q1), (1, .ref (A 0)), (2, .ref (A 179)), (3, .ref (A 517)), (4, .int (Int32.ofInt i))] [.int (Int32.ofInt e14)] (Wd A dT s13) (ce + 1) (sl + 6)
  refine z_store X (lv' := [(6, .int (Int32.ofInt e14)), (5, .int (Int32.ofInt e11)), (0, .ref q1), (1, .ref (A 0)), (2, .ref (A 179)), (3, .ref (A 517)), (4, .int (Int32.ofInt i))]) rfl (by decide) (fun _ h => h) (z_goto X (t := 1894) rfl rfl (w_widen (ce' := ce + 29) (sl' := sl + 222) (by first | exact Nat.le_add_right _ _ | exact Nat.add_le_add_left (by decide) _ | omega) (by first | exact Nat.le_add_right _ _ | exact Nat.add_le_add_left (by decide) _ | omega) ?_))
  exact WS_lv (lv := [(0, .ref q1), (1, .ref (A 0)), (2, .ref (A 179)), (3, .ref (A 517)), (4, .int (Int32.ofInt i))]) (List.forall_mem_cons.mpr ⟨(List.Mem.tail _ (List.Mem.tail _ (List.Mem.head _))), (List.forall_mem_cons.mpr ⟨(List.Mem.tail _ (List.Mem.tail _ (List.Mem.tail _ (List.Mem.head _)))), (List.forall_mem_cons.mpr ⟨(List.Mem.tail _ (List.Mem.tail _ (List.Mem.tail _ (List.Mem.tail _ (List.Mem.head _))))), (List.forall_mem_cons.mpr ⟨(List.Mem.tail _ (List.Mem.tail _ (List.Mem.tail _ (List.Mem.tail _ (List.Mem.tail _ (List.Mem.head _)))))), (List.forall_mem_cons.mpr ⟨(List.Mem.tail _ (List.Mem.tail _ (List.Mem.tail _ (List.Mem.tail _ (List.Mem.tail _ (List.Mem.tail _ (List.Mem.head _))))))), (fun q h => absurd h List.not_mem_nil)⟩)⟩)⟩)⟩)⟩) (hk A _ Is13 JRLx_s13 JFEQ_s13 JARJ_s13 JPTJ_s13 (by first | exact oq_f34933ba ws13_89 ws10_89 p1 b8.1 | omega) (by first | exact oq_d7ce4408 ws13_12 ws10_12 p2 | omega) (by first | exact oq_5bcdc35f ws13_74 ws13_0 ws10_74 ws10_0 p3 | omega) (by first | exact oq_5bcdc35f ws13_90 ws13_9 ws10_90 ws10_9 p4 | omega) (by first | exact oq_5bcdc35f ws13_98 ws13_20 ws10_98 ws10_20 p5 | omega))
theorem lc_23 (G : GX l s0 D tys a0 dT) (GR : RS0 s0) (SF : SF0 s0) (GT : TXs0 s0) (GW : TXw0 s0) {k : kx_T} (X : AX k 350 dT) (E : kL k = l ∧ kS0 k = s0 ∧ kD k = D ∧ kR k = room_1) {q1 L : Nat} {xs : Nat → Int32} (S : SX k q1 L xs) (hL : L ≤ 3072) (I : Bd s) (jR : RLx s) (jFEQ : FEQ s) (jARJ : ARJ s) (jPTJ : PTJ s) (p1 : iI s 89 = 1) (p2 : iI s 12 ≤ 8) (p3 : iI s 0 = iI s 74) (p4 : iI s 9 = iI s 90) (p5 : iI s 20 = iI s 98) {i : Int} (hi : 0 ≤ i ∧ i + 6 ≤ (L : Int)) {ce sl : Nat} (hce : ce + 29 ≤ 601024) (hsl : sl + 222 ≤ 7293034) (hk : ∀ (A : Nat → Nat) (t : PS), Bd t → RLx t → FEQ t → ARJ t → PTJ t → iI t 89 = 1 → iI t 12 ≤ 8 → iI t 0 = iI t 74 → iI t 9 = iI t 90 → iI t 20 = iI t 98 → WS k 1894 [(0, .ref q1), (1, .ref (A 0)), (2, .ref (A 179)), (3, .ref (A 517)), (4, .int (Int32.ofInt i))] [] (Wd A dT t) (ce + 29) (sl + 222)) : WS k 1050 [(0, .ref q1), (1, .ref (A 0)), (2, .ref (A 179)), (3, .ref (A 517)), (4, .int (Int32.ofInt i))] [] (Wd A dT s) ce sl := by
  have F : Fm [22, 23, 24, 31, 29, 30, 73, 77, 75, 78, 79, 80, 81, 100, 101] [33, 26, 27, 28, 29, 30, 31, 32, 20, 40, 41, 42, 45, 43, 44, 1460, 202, 204, 205, 206, 207, 208, 209, 210, 211, 212, 213, 214, 215, 216, 217, 218, 219, 220, 221, 222, 223, 224, 225, 226, 227, 203, 161, 230, 231, 232, 240, 238, 239, 236, 235] s s := fm_rf _ _ s
  have b1 := bi_0 I
  have b2 := bi_74 I
  have b3 := bi_9 I
  have b4 := bi_90 I
  have b5 := bi_20 I
  have b6 := bi_98 I
  have b7 := bi_12 I
  have b8 := bi_89 I
  refine z_aload_n X (x := A 0) rfl (List.Mem.tail _ (List.Mem.head _)) (z_aload_n X (x := q1) rfl (List.Mem.head _) (z_load X (x := i) rfl (List.Mem.tail _ (List.Mem.tail _ (List.Mem.tail _ (List.Mem.tail _ (List.Mem.head _))))) (z_const X rfl (z_add X rfl (z_sld X S hL rfl (show 0 ≤ (i + 1) ∧ (i + 1) < (L : Int) by first | exact sx_in hi (by decide) | omega) ?_)))))
  have sr9 : rng (sc xs (i + 1)) := sc_rng
  refine z_aload_n X (x := q1) rfl (List.Mem.head _) (z_load X (x := i) rfl (List.Mem.tail _ (List.Mem.tail _ (List.Mem.tail _ (List.Mem.tail _ (List.Mem.head _))))) (z_const X rfl (z_add X rfl (z_sld X S hL rfl (show 0 ≤ (i + 2) ∧ (i + 2) < (L : Int) by first | exact sx_in hi (by decide) | omega) ?_))))
  have sr10 : rng (sc xs (i + 2)) := sc_rng
  refine z_aload_n X (x := A 517) rfl (List.Mem.tail _ (List.Mem.tail _ (List.Mem.tail _ (List.Mem.head _)))) (z_callL X (rm := rmN 333) (As := [.ref (A 0), .int (Int32.ofInt (sc xs (i + 1))), .int (Int32.ofInt (sc xs (i + 2))), .ref (A 517)]) (st := []) rfl (by decide) rfl (by rw [E.1, E.2.1, E.2.2.1]; exact lw_parted G I (by omega) (by omega)) ⟨by rw [E.2.2.2]; exact (show 35 + 1 ≤ 2048 by decide), by rw [E.2.2.2]; exact (show 8 + (5 + 11) + 1468 ≤ 84000 by decide), by rw [E.2.2.2]; exact (show ce + 2 ≤ 601024 by first | exact rmo_1 hce (by decide) | exact rmo_2 hce (by decide) | omega), by rw [E.2.2.2]; exact (show sl + 12 ≤ 7293034 by first | exact rmo_1 hsl (by decide) | exact rmo_2 hsl (by decide) | omega)⟩ (Nat.le_of_ble_eq_true rfl) (fun vv A s11 hA2 hq => ?_) (fun ee A s11 hA2 hq => ?_))
  rotate_left
  · obtain ⟨Is11, Fs11, e12, hv, hrs11, hps11⟩ := hq; cases hv
  obtain ⟨Is11, Fs11, e12, hv, hrs11, hps11⟩ := hq
  cases hv
  rw [← hA2 0 (by decide)]
  rw [← hA2 179 (by decide)]
  rw [← hA2 517 (by decide)]
  have JRLx_s11 : RLx s11 := RLx_fm Fs11 (by decide) jR
  have JFEQ_s11 : FEQ s11 := FEQ_fm Fs11 (by decide) jFEQ
  have JARJ_s11 : ARJ s11 := ARJ_fm Fs11 ⟨by decide +kernel, by decide +kernel, by decide +kernel, by decide +kernel, by decide +kernel, by decide +kernel, by decide +kernel, by decide +kernel⟩ jARJ
  have JPTJ_s11 : PTJ s11 := PTJ_fm Fs11 (by decide +kernel) jPTJ
  have ws11_0 : iI s11 0 = iI s 0 := fm_iq Fs11 rfl
  have ws11_74 : iI s11 74 = iI s 74 := fm_iq Fs11 rfl
  have ws11_9 : iI s11 9 = iI s 9 := fm_iq Fs11 rfl
  have ws11_90 : iI s11 90 = iI s 90 := fm_iq Fs11 rfl
  have ws11_20 : iI s11 20 = iI s 20 := fm_iq Fs11 rfl
  have ws11_98 : iI s11 98 = iI s 98 := fm_iq Fs11 rfl
  have ws11_12 : iI s11 12 = iI s 12 := fm_iq Fs11 rfl
  have ws11_89 : iI s11 89 = iI s 89 := fm_iq Fs11 rfl
  show WS k 1067 [(0, .ref q1), (1, .ref (A 0)), (2, .ref (A 179)), (3, .ref (A 517)), (4, .int (Int32.ofInt i))] [.int (Int32.ofInt e12)] (Wd A dT s11) (ce + 2) (sl + 12)
  refine z_store X (lv' := [(5, .int (Int32.ofInt e12)), (0, .ref q1), (1, .ref (A 0)), (2, .ref (A 179)), (3, .ref (A 517)), (4, .int (Int32.ofInt i))]) rfl (by decide) (fun _ h => h) (z_aload_n X (x := A 179) rfl (List.Mem.tail _ (List.Mem.tail _ (List.Mem.tail _ (List.Mem.head _)))) (z_aload_n X (x := q1) rfl (List.Mem.tail _ (List.Mem.head _)) (z_load X (x := i) rfl (List.Mem.tail _ (List.Mem.tail _ (List.Mem.tail _ (List.Mem.tail _ (List.Mem.tail _ (List.Mem.head _)))))) (z_const X rfl (z_add X rfl (z_sld X S hL rfl (show 0 ≤ (i + 1) ∧ (i + 1) < (L : Int) by first | exact sx_in hi (by decide) | omega) ?_))))))
  have sr13 : rng (sc xs (i + 1)) := sc_rng
  refine z_aload_n X (x := q1) rfl (List.Mem.tail _ (List.Mem.head _)) (z_load X (x := i) rfl (List.Mem.tail _ (List.Mem.tail _ (List.Mem.tail _ (List.Mem.tail _ (List.Mem.tail _ (List.Mem.head _)))))) (z_const X rfl (z_add X rfl (z_sld X S hL rfl (show 0 ≤ (i + 2) ∧ (i + 2) < (L : Int) by first | exact sx_in hi (by decide) | omega) ?_))))
  have sr14 : rng (sc xs (i + 2)) := sc_rng
  refine z_callV X 179 (rm := rmN 263) (As := [.int (Int32.ofInt (sc xs (i + 1))), .int (Int32.ofInt (sc xs (i + 2)))]) (st := []) rfl rfl (by decide) rfl (by rw [E.1, E.2.1, E.2.2.1]; exact k_parted G Is11 JRLx_s11 (by first | exact ⟨sr13.1, sr13.2⟩ | omega) (by first | exact ⟨sr14.1, sr14.2⟩ | omega)) ⟨by rw [E.2.2.2]; exact (show 38 + 1 ≤ 2048 from oq_a3fac05c), by rw [E.2.2.2]; exact (show 8 + (3 + 11) + 1601 ≤ 84000 from oq_e81fc71d), by rw [E.2.2.2]; exact (show (ce + 2) + 0 ≤ 601024 by omega), by rw [E.2.2.2]; exact (show (sl + 12) + 0 ≤ 7293034 by omega)⟩ (Nat.le_of_ble_eq_true rfl) (fun vv s15 hq => ?_) (fun ee s15 hq => ?_)
  rotate_left
  · obtain ⟨Is15, Fs15, JRLx_s15, e16, hv, hrs15, hps15⟩ := hq; cases hv
  obtain ⟨Is15, Fs15, JRLx_s15, e16, hv, hrs15, hps15⟩ := hq
  cases hv
  have JRLx_s15 : RLx s15 := RLx_fm Fs15 (by decide) JRLx_s11
  have JFEQ_s15 : FEQ s15 := FEQ_fm Fs15 (by decide) JFEQ_s11
  have JARJ_s15 : ARJ s15 := ARJ_fm Fs15 ⟨by decide +kernel, by decide +kernel, by decide +kernel, by decide +kernel, by decide +kernel, by decide +kernel, by decide +kernel, by decide +kernel⟩ JARJ_s11
  have JPTJ_s15 : PTJ s15 := PTJ_fm Fs15 (by decide +kernel) JPTJ_s11
  have ws15_0 : iI s15 0 = iI s11 0 := fm_iq Fs15 rfl
  have ws15_74 : iI s15 74 = iI s11 74 := fm_iq Fs15 rfl
  have ws15_9 : iI s15 9 = iI s11 9 := fm_iq Fs15 rfl
  have ws15_90 : iI s15 90 = iI s11 90 := fm_iq Fs15 rfl
  have ws15_20 : iI s15 20 = iI s11 20 := fm_iq Fs15 rfl
  have ws15_98 : iI s15 98 = iI s11 98 := fm_iq Fs15 rfl
  have ws15_12 : iI s15 12 = iI s11 12 := fm_iq Fs15 rfl
  have ws15_89 : iI s15 89 = iI s11 89 := fm_iq Fs15 rfl
  have wos15 : iO s15 = iO s11 := fm_o Fs15 (by decide)
  show WS k 1085 [(5, .int (Int32.ofInt e12)), (0, .ref q1), (1, .ref (A 0)), (2, .ref (A 179)), (3, .ref (A 517)), (4, .int (Int32.ofInt i))] [.int (Int32.ofInt e16)] (Wd A dT s15) (ce + 2) (sl + 12)
  refine z_store X (lv' := [(6, .int (Int32.ofInt e16)), (5, .int (Int32.ofInt e12)), (0, .ref q1), (1, .ref (A 0)), (2, .ref (A 179)), (3, .ref (A 517)), (4, .int (Int32.ofInt i))]) rfl (by decide) (fun _ h => h) (z_goto X (t := 1894) rfl rfl (w_widen (ce' := ce + 29) (sl' := sl + 222) (by first | exact Nat.le_add_right _ _ | exact Nat.add_le_add_left (by decide) _ | omega) (by first | exact Nat.le_add_right _ _ | exact Nat.add_le_add_left (by decide) _ | omega) ?_))
  exact WS_lv (lv := [(0, .ref q1), (1, .ref (A 0)), (2, .ref (A 179)), (3, .ref (A 517)), (4, .int (Int32.ofInt i))]) (List.forall_mem_cons.mpr ⟨(List.Mem.tail _ (List.Mem.tail _ (List.Mem.head _))), (List.forall_mem_cons.mpr ⟨(List.Mem.tail _ (List.Mem.tail _ (List.Mem.tail _ (List.Mem.head _)))), (List.forall_mem_cons.mpr ⟨(List.Mem.tail _ (List.Mem.tail _ (List.Mem.tail _ (List.Mem.tail _ (List.Mem.head _))))), (List.forall_mem_cons.mpr ⟨(List.Mem.tail _ (List.Mem.tail _ (List.Mem.tail _ (List.Mem.tail _ (List.Mem.tail _ (List.Mem.head _)))))), (List.forall_mem_cons.mpr ⟨(List.Mem.tail _ (List.Mem.tail _ (List.Mem.tail _ (List.Mem.tail _ (List.Mem.tail _ (List.Mem.tail _ (List.Mem.head _))))))), (fun q h => absurd h List.not_mem_nil)⟩)⟩)⟩)⟩)⟩) (hk A _ Is15 JRLx_s15 JFEQ_s15 JARJ_s15 JPTJ_s15 (by first | exact oq_f34933ba ws15_89 ws11_89 p1 b8.1 | omega) (by first | exact oq_d7ce4408 ws15_12 ws11_12 p2 | omega) (by first | exact oq_5bcdc35f ws15_74 ws15_0 ws11_74 ws11_0 p3 | omega) (by first | exact oq_5bcdc35f ws15_90 ws15_9 ws11_90 ws11_9 p4 | omega) (by first | exact oq_5bcdc35f ws15_98 ws15_20 ws11_98 ws11_20 p5 | omega))
theorem lc_24 (G : GX l s0 D tys a0 dT) (GR : RS0 s0) (SF : SF0 s0) (GT : TXs0 s0) (GW : TXw0 s0) {k : kx_T} (X : AX k 350 dT) (E : kL k = l ∧ kS0 k = s0 ∧ kD k = D ∧ kR k = room_1) {q1 L : Nat} {xs : Nat → Int32} (S : SX k q1 L xs) (hL : L ≤ 3072) (I : Bd s) (jR : RLx s) (jFEQ : FEQ s) (jARJ : ARJ s) (jPTJ : PTJ s) (p1 : iI s 89 = 1) (p2 : iI s 12 ≤ 8) (p3 : iI s 0 = iI s 74) (p4 : iI s 9 = iI s 90) (p5 : iI s 20 = iI s 98) {i : Int} (hi : 0 ≤ i ∧ i + 6 ≤ (L : Int)) {ce sl : Nat} (hce : ce + 29 ≤ 601024) (hsl : sl + 222 ≤ 7293034) (hk : ∀ (A : Nat → Nat) (t : PS), Bd t → RLx t → FEQ t → ARJ t → PTJ t → iI t 89 = 1 → iI t 12 ≤ 8 → iI t 0 = iI t 74 → iI t 9 = iI t 90 → iI t 20 = iI t 98 → WS k 1894 [(0, .ref q1), (1, .ref (A 0)), (2, .ref (A 179)), (3, .ref (A 517)), (4, .int (Int32.ofInt i))] [] (Wd A dT t) (ce + 29) (sl + 222)) : WS k 1090 [(0, .ref q1), (1, .ref (A 0)), (2, .ref (A 179)), (3, .ref (A 517)), (4, .int (Int32.ofInt i))] [] (Wd A dT s) ce sl := by
  have F : Fm [28, 73, 97] [] s s := fm_rf _ _ s
  have b1 := bi_0 I
  have b2 := bi_74 I
  have b3 := bi_9 I
  have b4 := bi_90 I
  have b5 := bi_20 I
  have b6 := bi_98 I
  have b7 := bi_12 I
  have b8 := bi_89 I
  refine z_aload_n X (x := A 0) rfl (List.Mem.tail _ (List.Mem.head _)) (z_callV X 0 (rm := rmN 159) (As := []) (st := []) rfl rfl (by decide) rfl (by rw [E.1, E.2.1, E.2.2.1]; exact cs_clear G I ) ⟨by rw [E.2.2.2]; exact (show 6 + 1 ≤ 2048 from oq_4d34cb53), by rw [E.2.2.2]; exact (show 8 + (2 + 11) + 100 ≤ 84000 from oq_8731b8c0), by rw [E.2.2.2]; exact (show ce + 0 ≤ 601024 by omega), by rw [E.2.2.2]; exact (show sl + 0 ≤ 7293034 by omega)⟩ (Nat.le_of_ble_eq_true rfl) (fun vv s9 hq => ?_) (fun ee s9 hq => ?_))
  rotate_left
  · obtain ⟨Is9, Fs9, e10, hv, hrs9, hps9⟩ := hq; cases hv
  obtain ⟨Is9, Fs9, e10, hv, hrs9, hps9⟩ := hq
  cases hv
  have JRLx_s9 : RLx s9 := RLx_fm Fs9 (by decide) jR
  have JFEQ_s9 : FEQ s9 := FEQ_fm Fs9 (by decide) jFEQ
  have JARJ_s9 : ARJ s9 := ARJ_fm Fs9 ⟨by decide +kernel, by decide +kernel, by decide +kernel, by decide +kernel, by decide +kernel, by decide +kernel, by decide +kernel, by decide +kernel⟩ jARJ
  have JPTJ_s9 : PTJ s9 := PTJ_fm Fs9 (by decide +kernel) jPTJ
  have ws9_0 : iI s9 0 = iI s 0 := fm_iq Fs9 rfl
  have ws9_74 : iI s9 74 = iI s 74 := fm_iq Fs9 rfl
  have ws9_9 : iI s9 9 = iI s 9 := fm_iq Fs9 rfl
  have ws9_90 : iI s9 90 = iI s 90 := fm_iq Fs9 rfl
  have ws9_20 : iI s9 20 = iI s 20 := fm_iq Fs9 rfl
  have ws9_98 : iI s9 98 = iI s 98 := fm_iq Fs9 rfl
  have ws9_12 : iI s9 12 = iI s 12 := fm_iq Fs9 rfl
  have ws9_89 : iI s9 89 = iI s 89 := fm_iq Fs9 rfl
  have wos9 : iO s9 = iO s := fm_o Fs9 (by decide)
  show WS k 1094 [(0, .ref q1), (1, .ref (A 0)), (2, .ref (A 179)), (3, .ref (A 517)), (4, .int (Int32.ofInt i))] [.int (Int32.ofInt e10)] (Wd A dT s9) ce sl
  refine w_pop X.1 (ax_d X (show cdA 350 1094 = some (.pop, 1, 0, 0, 0) from rfl)) rfl (z_aload_n X (x := A 179) rfl (List.Mem.tail _ (List.Mem.tail _ (List.Mem.head _))) (z_callV X 179 (rm := rmN 259) (As := []) (st := []) rfl rfl (by decide) rfl (by rw [E.1, E.2.1, E.2.2.1]; exact k_clear G Is9 ) ⟨by rw [E.2.2.2]; exact (show 6 + 1 ≤ 2048 from oq_4d34cb53), by rw [E.2.2.2]; exact (show 8 + (2 + 11) + 100 ≤ 84000 from oq_8731b8c0), by rw [E.2.2.2]; exact (show ce + 0 ≤ 601024 by omega), by rw [E.2.2.2]; exact (show sl + 0 ≤ 7293034 by omega)⟩ (Nat.le_of_ble_eq_true rfl) (fun vv s11 hq => ?_) (fun ee s11 hq => ?_)))
  rotate_left
  · obtain ⟨Is11, Fs11, e12, hv, hrs11, hps11⟩ := hq; cases hv
  obtain ⟨Is11, Fs11, e12, hv, hrs11, hps11⟩ := hq
  cases hv
  have JRLx_s11 : RLx s11 := RLx_fm Fs11 (by decide) JRLx_s9
  have JFEQ_s11 : FEQ s11 := FEQ_fm Fs11 (by decide) JFEQ_s9
  have JARJ_s11 : ARJ s11 := ARJ_fm Fs11 ⟨by decide +kernel, by decide +kernel, by decide +kernel, by decide +kernel, by decide +kernel, by decide +kernel, by decide +kernel, by decide +kernel⟩ JARJ_s9
  have JPTJ_s11 : PTJ s11 := PTJ_fm Fs11 (by decide +kernel) JPTJ_s9
  have ws11_0 : iI s11 0 = iI s9 0 := fm_iq Fs11 rfl
  have ws11_74 : iI s11 74 = iI s9 74 := fm_iq Fs11 rfl
  have ws11_9 : iI s11 9 = iI s9 9 := fm_iq Fs11 rfl
  have ws11_90 : iI s11 90 = iI s9 90 := fm_iq Fs11 rfl
  have ws11_20 : iI s11 20 = iI s9 20 := fm_iq Fs11 rfl
  have ws11_98 : iI s11 98 = iI s9 98 := fm_iq Fs11 rfl
  have ws11_12 : iI s11 12 = iI s9 12 := fm_iq Fs11 rfl
  have ws11_89 : iI s11 89 = iI s9 89 := fm_iq Fs11 rfl
  have wos11 : iO s11 = iO s9 := fm_o Fs11 (by decide)
  show WS k 1099 [(0, .ref q1), (1, .ref (A 0)), (2, .ref (A 179)), (3, .ref (A 517)), (4, .int (Int32.ofInt i))] [.int (Int32.ofInt e12)] (Wd A dT s11) ce sl
  refine w_pop X.1 (ax_d X (show cdA 350 1099 = some (.pop, 1, 0, 0, 0) from rfl)) rfl (z_goto X (t := 1894) rfl rfl (w_widen (ce' := ce + 29) (sl' := sl + 222) (by first | exact Nat.le_add_right _ _ | exact Nat.add_le_add_left (by decide) _ | omega) (by first | exact Nat.le_add_right _ _ | exact Nat.add_le_add_left (by decide) _ | omega) ?_))
  exact WS_lv (lv := [(0, .ref q1), (1, .ref (A 0)), (2, .ref (A 179)), (3, .ref (A 517)), (4, .int (Int32.ofInt i))]) (List.forall_mem_cons.mpr ⟨(List.Mem.head _), (List.forall_mem_cons.mpr ⟨(List.Mem.tail _ (List.Mem.head _)), (List.forall_mem_cons.mpr ⟨(List.Mem.tail _ (List.Mem.tail _ (List.Mem.head _))), (List.forall_mem_cons.mpr ⟨(List.Mem.tail _ (List.Mem.tail _ (List.Mem.tail _ (List.Mem.head _)))), (List.forall_mem_cons.mpr ⟨(List.Mem.tail _ (List.Mem.tail _ (List.Mem.tail _ (List.Mem.tail _ (List.Mem.head _))))), (fun q h => absurd h List.not_mem_nil)⟩)⟩)⟩)⟩)⟩) (hk A _ Is11 JRLx_s11 JFEQ_s11 JARJ_s11 JPTJ_s11 (by first | exact oq_f34933ba ws11_89 ws9_89 p1 b8.1 | omega) (by first | exact oq_d7ce4408 ws11_12 ws9_12 p2 | omega) (by first | exact oq_5bcdc35f ws11_74 ws11_0 ws9_74 ws9_0 p3 | omega) (by first | exact oq_5bcdc35f ws11_90 ws11_9 ws9_90 ws9_9 p4 | omega) (by first | exact oq_5bcdc35f ws11_98 ws11_20 ws9_98 ws9_20 p5 | omega))
theorem lc_25 (G : GX l s0 D tys a0 dT) (GR : RS0 s0) (SF : SF0 s0) (GT : TXs0 s0) (GW : TXw0 s0) {k : kx_T} (X : AX k 350 dT) (E : kL k = l ∧ kS0 k = s0 ∧ kD k = D ∧ kR k = room_1) {q1 L : Nat} {xs : Nat → Int32} (S : SX k q1 L xs) (hL : L ≤ 3072) (I : Bd s) (jR : RLx s) (jFEQ : FEQ s) (jARJ : ARJ s) (jPTJ : PTJ s) (p1 : iI s 89 = 1) (p2 : iI s 12 ≤ 8) (p3 : iI s 0 = iI s 74) (p4 : iI s 9 = iI s 90) (p5 : iI s 20 = iI s 98) {i : Int} (hi : 0 ≤ i ∧ i + 6 ≤ (L : Int)) {ce sl : Nat} (hce : ce + 29 ≤ 601024) (hsl : sl + 222 ≤ 7293034) (hk : ∀ (A : Nat → Nat) (t : PS), Bd t → RLx t → FEQ t → ARJ t → PTJ t → iI t 89 = 1 → iI t 12 ≤ 8 → iI t 0 = iI t 74 → iI t 9 = iI t 90 → iI t 20 = iI t 98 → WS k 1894 [(0, .ref q1), (1, .ref (A 0)), (2, .ref (A 179)), (3, .ref (A 517)), (4, .int (Int32.ofInt i))] [] (Wd A dT t) (ce + 29) (sl + 222)) : WS k 1103 [(0, .ref q1), (1, .ref (A 0)), (2, .ref (A 179)), (3, .ref (A 517)), (4, .int (Int32.ofInt i))] [] (Wd A dT s) ce sl := by
  have F : Fm [32, 73, 99] [46, 1460, 237] s s := fm_rf _ _ s
  have b1 := bi_0 I
  have b2 := bi_74 I
  have b3 := bi_9 I
  have b4 := bi_90 I
  have b5 := bi_20 I
  have b6 := bi_98 I
  have b7 := bi_12 I
  have b8 := bi_89 I
  refine z_aload_n X (x := A 0) rfl (List.Mem.tail _ (List.Mem.head _)) (z_aload_n X (x := q1) rfl (List.Mem.head _) (z_load X (x := i) rfl (List.Mem.tail _ (List.Mem.tail _ (List.Mem.tail _ (List.Mem.tail _ (List.Mem.head _))))) (z_const X rfl (z_add X rfl (z_sld X S hL rfl (show 0 ≤ (i + 1) ∧ (i + 1) < (L : Int) by first | exact sx_in hi (by decide) | omega) ?_)))))
  have sr9 : rng (sc xs (i + 1)) := sc_rng
  refine z_aload_n X (x := A 517) rfl (List.Mem.tail _ (List.Mem.tail _ (List.Mem.tail _ (List.Mem.head _)))) (z_callL X (rm := rmN 334) (As := [.ref (A 0), .int (Int32.ofInt (sc xs (i + 1))), .ref (A 517)]) (st := []) rfl (by decide) rfl (by rw [E.1, E.2.1, E.2.2.1]; exact lw_configure G I (by omega)) ⟨by rw [E.2.2.2]; exact (show 8 + 1 ≤ 2048 by decide), by rw [E.2.2.2]; exact (show 8 + (4 + 11) + 144 ≤ 84000 by decide), by rw [E.2.2.2]; exact (show ce + 1 ≤ 601024 by first | exact rmo_1 hce (by decide) | exact rmo_2 hce (by decide) | omega), by rw [E.2.2.2]; exact (show sl + 6 ≤ 7293034 by first | exact rmo_1 hsl (by decide) | exact rmo_2 hsl (by decide) | omega)⟩ (Nat.le_of_ble_eq_true rfl) (fun vv A s10 hA2 hq => ?_) (fun ee A s10 hA2 hq => ?_))
  rotate_left
  · obtain ⟨Is10, Fs10, e11, hv, hrs10, hps10⟩ := hq; cases hv
  obtain ⟨Is10, Fs10, e11, hv, hrs10, hps10⟩ := hq
  cases hv
  rw [← hA2 0 (by decide)]
  rw [← hA2 179 (by decide)]
  rw [← hA2 517 (by decide)]
  have JRLx_s10 : RLx s10 := RLx_fm Fs10 (by decide) jR
  have JFEQ_s10 : FEQ s10 := FEQ_fm Fs10 (by decide) jFEQ
  have JARJ_s10 : ARJ s10 := ARJ_fm Fs10 ⟨by decide +kernel, by decide +kernel, by decide +kernel, by decide +kernel, by decide +kernel, by decide +kernel, by decide +kernel, by decide +kernel⟩ jARJ
  have JPTJ_s10 : PTJ s10 := PTJ_fm Fs10 (by decide +kernel) jPTJ
  have ws10_0 : iI s10 0 = iI s 0 := fm_iq Fs10 rfl
  have ws10_74 : iI s10 74 = iI s 74 := fm_iq Fs10 rfl
  have ws10_9 : iI s10 9 = iI s 9 := fm_iq Fs10 rfl
  have ws10_90 : iI s10 90 = iI s 90 := fm_iq Fs10 rfl
  have ws10_20 : iI s10 20 = iI s 20 := fm_iq Fs10 rfl
  have ws10_98 : iI s10 98 = iI s 98 := fm_iq Fs10 rfl
  have ws10_12 : iI s10 12 = iI s 12 := fm_iq Fs10 rfl
  have ws10_89 : iI s10 89 = iI s 89 := fm_iq Fs10 rfl
  show WS k 1114 [(0, .ref q1), (1, .ref (A 0)), (2, .ref (A 179)), (3, .ref (A 517)), (4, .int (Int32.ofInt i))] [.int (Int32.ofInt e11)] (Wd A dT s10) (ce + 1) (sl + 6)
  refine z_store X (lv' := [(5, .int (Int32.ofInt e11)), (0, .ref q1), (1, .ref (A 0)), (2, .ref (A 179)), (3, .ref (A 517)), (4, .int (Int32.ofInt i))]) rfl (by decide) (fun _ h => h) (z_aload_n X (x := A 179) rfl (List.Mem.tail _ (List.Mem.tail _ (List.Mem.tail _ (List.Mem.head _)))) (z_aload_n X (x := q1) rfl (List.Mem.tail _ (List.Mem.head _)) (z_load X (x := i) rfl (List.Mem.tail _ (List.Mem.tail _ (List.Mem.tail _ (List.Mem.tail _ (List.Mem.tail _ (List.Mem.head _)))))) (z_const X rfl (z_add X rfl (z_sld X S hL rfl (show 0 ≤ (i + 1) ∧ (i + 1) < (L : Int) by first | exact sx_in hi (by decide) | omega) ?_))))))
  have sr12 : rng (sc xs (i + 1)) := sc_rng
  refine z_callV X 179 (rm := rmN 264) (As := [.int (Int32.ofInt (sc xs (i + 1)))]) (st := []) rfl rfl (by decide) rfl (by rw [E.1, E.2.1, E.2.2.1]; exact k_configure G Is10 (by first | exact ⟨sr12.1, sr12.2⟩ | omega)) ⟨by rw [E.2.2.2]; exact (show 7 + 1 ≤ 2048 from oq_4e6106eb), by rw [E.2.2.2]; exact (show 8 + (2 + 11) + 122 ≤ 84000 from oq_f09e007f), by rw [E.2.2.2]; exact (show (ce + 1) + 0 ≤ 601024 by omega), by rw [E.2.2.2]; exact (show (sl + 6) + 0 ≤ 7293034 by omega)⟩ (Nat.le_of_ble_eq_true rfl) (fun vv s13 hq => ?_) (fun ee s13 hq => ?_)
  rotate_left
  · obtain ⟨Is13, Fs13, e14, hv, hrs13, hps13⟩ := hq; cases hv
  obtain ⟨Is13, Fs13, e14, hv, hrs13, hps13⟩ := hq
  cases hv
  have JRLx_s13 : RLx s13 := RLx_fm Fs13 (by decide) JRLx_s10
  have JFEQ_s13 : FEQ s13 := FEQ_fm Fs13 (by decide) JFEQ_s10
  have JARJ_s13 : ARJ s13 := ARJ_fm Fs13 ⟨by decide +kernel, by decide +kernel, by decide +kernel, by decide +kernel, by decide +kernel, by decide +kernel, by decide +kernel, by decide +kernel⟩ JARJ_s10
  have JPTJ_s13 : PTJ s13 := PTJ_fm Fs13 (by decide +kernel) JPTJ_s10
  have ws13_0 : iI s13 0 = iI s10 0 := fm_iq Fs13 rfl
  have ws13_74 : iI s13 74 = iI s10 74 := fm_iq Fs13 rfl
  have ws13_9 : iI s13 9 = iI s10 9 := fm_iq Fs13 rfl
  have ws13_90 : iI s13 90 = iI s10 90 := fm_iq Fs13 rfl
  have ws13_20 : iI s13 20 = iI s10 20 := fm_iq Fs13 rfl
  have ws13_98 : iI s13 98 = iI s10 98 := fm_iq Fs13 rfl
  have ws13_12 : iI s13 12 = iI s10 12 := fm_iq Fs13 rfl
  have ws13_89 : iI s13 89 = iI s10 89 := fm_iq Fs13 rfl
  have wos13 : iO s13 = iO s10 := fm_o Fs13 (by decide)
  show WS k 1126 [(5, .int (Int32.ofInt e11)), (0, .ref q1), (1, .ref (A 0)), (2, .ref (A 179)), (3, .ref (A 517)), (4, .int (Int32.ofInt i))] [.int (Int32.ofInt e14)] (Wd A dT s13) (ce + 1) (sl + 6)
  refine z_store X (lv' := [(6, .int (Int32.ofInt e14)), (5, .int (Int32.ofInt e11)), (0, .ref q1), (1, .ref (A 0)), (2, .ref (A 179)), (3, .ref (A 517)), (4, .int (Int32.ofInt i))]) rfl (by decide) (fun _ h => h) (z_goto X (t := 1894) rfl rfl (w_widen (ce' := ce + 29) (sl' := sl + 222) (by first | exact Nat.le_add_right _ _ | exact Nat.add_le_add_left (by decide) _ | omega) (by first | exact Nat.le_add_right _ _ | exact Nat.add_le_add_left (by decide) _ | omega) ?_))
  exact WS_lv (lv := [(0, .ref q1), (1, .ref (A 0)), (2, .ref (A 179)), (3, .ref (A 517)), (4, .int (Int32.ofInt i))]) (List.forall_mem_cons.mpr ⟨(List.Mem.tail _ (List.Mem.tail _ (List.Mem.head _))), (List.forall_mem_cons.mpr ⟨(List.Mem.tail _ (List.Mem.tail _ (List.Mem.tail _ (List.Mem.head _)))), (List.forall_mem_cons.mpr ⟨(List.Mem.tail _ (List.Mem.tail _ (List.Mem.tail _ (List.Mem.tail _ (List.Mem.head _))))), (List.forall_mem_cons.mpr ⟨(List.Mem.tail _ (List.Mem.tail _ (List.Mem.tail _ (List.Mem.tail _ (List.Mem.tail _ (List.Mem.head _)))))), (List.forall_mem_cons.mpr ⟨(List.Mem.tail _ (List.Mem.tail _ (List.Mem.tail _ (List.Mem.tail _ (List.Mem.tail _ (List.Mem.tail _ (List.Mem.head _))))))), (fun q h => absurd h List.not_mem_nil)⟩)⟩)⟩)⟩)⟩) (hk A _ Is13 JRLx_s13 JFEQ_s13 JARJ_s13 JPTJ_s13 (by first | exact oq_f34933ba ws13_89 ws10_89 p1 b8.1 | omega) (by first | exact oq_d7ce4408 ws13_12 ws10_12 p2 | omega) (by first | exact oq_5bcdc35f ws13_74 ws13_0 ws10_74 ws10_0 p3 | omega) (by first | exact oq_5bcdc35f ws13_90 ws13_9 ws10_90 ws10_9 p4 | omega) (by first | exact oq_5bcdc35f ws13_98 ws13_20 ws10_98 ws10_20 p5 | omega))
theorem lc_26 (G : GX l s0 D tys a0 dT) (GR : RS0 s0) (SF : SF0 s0) (GT : TXs0 s0) (GW : TXw0 s0) {k : kx_T} (X : AX k 350 dT) (E : kL k = l ∧ kS0 k = s0 ∧ kD k = D ∧ kR k = room_1) {q1 L : Nat} {xs : Nat → Int32} (S : SX k q1 L xs) (hL : L ≤ 3072) (I : Bd s) (jR : RLx s) (jFEQ : FEQ s) (jARJ : ARJ s) (jPTJ : PTJ s) (p1 : iI s 89 = 1) (p2 : iI s 12 ≤ 8) (p3 : iI s 0 = iI s 74) (p4 : iI s 9 = iI s 90) (p5 : iI s 20 = iI s 98) {i : Int} (hi : 0 ≤ i ∧ i + 6 ≤ (L : Int)) {ce sl : Nat} (hce : ce + 29 ≤ 601024) (hsl : sl + 222 ≤ 7293034) (hk : ∀ (A : Nat → Nat) (t : PS), Bd t → RLx t → FEQ t → ARJ t → PTJ t → iI t 89 = 1 → iI t 12 ≤ 8 → iI t 0 = iI t 74 → iI t 9 = iI t 90 → iI t 20 = iI t 98 → WS k 1894 [(0, .ref q1), (1, .ref (A 0)), (2, .ref (A 179)), (3, .ref (A 517)), (4, .int (Int32.ofInt i))] [] (Wd A dT t) (ce + 29) (sl + 222)) : WS k 1131 [(0, .ref q1), (1, .ref (A 0)), (2, .ref (A 179)), (3, .ref (A 517)), (4, .int (Int32.ofInt i))] [] (Wd A dT s) ce sl := by
  have F : Fm [22, 23, 24, 73, 89, 77, 75, 78, 79, 80, 81] [33, 26, 27, 28, 29, 30, 31, 32, 20, 48, 47, 1460, 202, 204, 205, 206, 207, 208, 209, 210, 211, 212, 213, 214, 215, 216, 217, 218, 219, 220, 221, 222, 223, 224, 225, 226, 227, 203, 161, 230] s s := fm_rf _ _ s
  have b1 := bi_0 I
  have b2 := bi_74 I
  have b3 := bi_9 I
  have b4 := bi_90 I
  have b5 := bi_20 I
  have b6 := bi_98 I
  have b7 := bi_12 I
  have b8 := bi_89 I
  refine z_aload_n X (x := A 0) rfl (List.Mem.tail _ (List.Mem.head _)) (z_aload_n X (x := q1) rfl (List.Mem.head _) (z_load X (x := i) rfl (List.Mem.tail _ (List.Mem.tail _ (List.Mem.tail _ (List.Mem.tail _ (List.Mem.head _))))) (z_const X rfl (z_add X rfl (z_sld X S hL rfl (show 0 ≤ (i + 1) ∧ (i + 1) < (L : Int) by first | exact sx_in hi (by decide) | omega) ?_)))))
  have sr9 : rng (sc xs (i + 1)) := sc_rng
  refine z_aload_n X (x := q1) rfl (List.Mem.head _) (z_load X (x := i) rfl (List.Mem.tail _ (List.Mem.tail _ (List.Mem.tail _ (List.Mem.tail _ (List.Mem.head _))))) (z_const X rfl (z_add X rfl (z_sld X S hL rfl (show 0 ≤ (i + 2) ∧ (i + 2) < (L : Int) by first | exact sx_in hi (by decide) | omega) ?_))))
  have sr10 : rng (sc xs (i + 2)) := sc_rng
  refine z_aload_n X (x := A 517) rfl (List.Mem.tail _ (List.Mem.tail _ (List.Mem.tail _ (List.Mem.head _)))) (z_callL X (rm := rmN 335) (As := [.ref (A 0), .int (Int32.ofInt (sc xs (i + 1))), .int (Int32.ofInt (sc xs (i + 2))), .ref (A 517)]) (st := []) rfl (by decide) rfl (by rw [E.1, E.2.1, E.2.2.1]; exact lw_pairs G I (by omega) (by omega) (by omega)) ⟨by rw [E.2.2.2]; exact (show 12 + 1 ≤ 2048 by decide), by rw [E.2.2.2]; exact (show 8 + (5 + 11) + 248 ≤ 84000 by decide), by rw [E.2.2.2]; exact (show ce + 2 ≤ 601024 by first | exact rmo_1 hce (by decide) | exact rmo_2 hce (by decide) | omega), by rw [E.2.2.2]; exact (show sl + 12 ≤ 7293034 by first | exact rmo_1 hsl (by decide) | exact rmo_2 hsl (by decide) | omega)⟩ (Nat.le_of_ble_eq_true rfl) (fun vv A s11 hA2 hq => ?_) (fun ee A s11 hA2 hq => ?_))
  rotate_left
  · obtain ⟨Is11, Fs11, e12, hv, hrs11, hps11⟩ := hq; cases hv
  obtain ⟨Is11, Fs11, e12, hv, hrs11, hps11⟩ := hq
  cases hv
  rw [← hA2 0 (by decide)]
  rw [← hA2 179 (by decide)]
  rw [← hA2 517 (by decide)]
  have JRLx_s11 : RLx s11 := RLx_fm Fs11 (by decide) jR
  have JFEQ_s11 : FEQ s11 := FEQ_fm Fs11 (by decide) jFEQ
  have JARJ_s11 : ARJ s11 := ARJ_fm Fs11 ⟨by decide +kernel, by decide +kernel, by decide +kernel, by decide +kernel, by decide +kernel, by decide +kernel, by decide +kernel, by decide +kernel⟩ jARJ
  have JPTJ_s11 : PTJ s11 := PTJ_fm Fs11 (by decide +kernel) jPTJ
  have ws11_0 : iI s11 0 = iI s 0 := fm_iq Fs11 rfl
  have ws11_74 : iI s11 74 = iI s 74 := fm_iq Fs11 rfl
  have ws11_9 : iI s11 9 = iI s 9 := fm_iq Fs11 rfl
  have ws11_90 : iI s11 90 = iI s 90 := fm_iq Fs11 rfl
  have ws11_20 : iI s11 20 = iI s 20 := fm_iq Fs11 rfl
  have ws11_98 : iI s11 98 = iI s 98 := fm_iq Fs11 rfl
  have ws11_12 : iI s11 12 = iI s 12 := fm_iq Fs11 rfl
  have ws11_89 : iI s11 89 = iI s 89 := fm_iq Fs11 rfl
  show WS k 1148 [(0, .ref q1), (1, .ref (A 0)), (2, .ref (A 179)), (3, .ref (A 517)), (4, .int (Int32.ofInt i))] [.int (Int32.ofInt e12)] (Wd A dT s11) (ce + 2) (sl + 12)
  refine z_store X (lv' := [(5, .int (Int32.ofInt e12)), (0, .ref q1), (1, .ref (A 0)), (2, .ref (A 179)), (3, .ref (A 517)), (4, .int (Int32.ofInt i))]) rfl (by decide) (fun _ h => h) (z_aload_n X (x := A 179) rfl (List.Mem.tail _ (List.Mem.tail _ (List.Mem.tail _ (List.Mem.head _)))) (z_aload_n X (x := q1) rfl (List.Mem.tail _ (List.Mem.head _)) (z_load X (x := i) rfl (List.Mem.tail _ (List.Mem.tail _ (List.Mem.tail _ (List.Mem.tail _ (List.Mem.tail _ (List.Mem.head _)))))) (z_const X rfl (z_add X rfl (z_sld X S hL rfl (show 0 ≤ (i + 1) ∧ (i + 1) < (L : Int) by first | exact sx_in hi (by decide) | omega) ?_))))))
  have sr13 : rng (sc xs (i + 1)) := sc_rng
  refine z_aload_n X (x := q1) rfl (List.Mem.tail _ (List.Mem.head _)) (z_load X (x := i) rfl (List.Mem.tail _ (List.Mem.tail _ (List.Mem.tail _ (List.Mem.tail _ (List.Mem.tail _ (List.Mem.head _)))))) (z_const X rfl (z_add X rfl (z_sld X S hL rfl (show 0 ≤ (i + 2) ∧ (i + 2) < (L : Int) by first | exact sx_in hi (by decide) | omega) ?_))))
  have sr14 : rng (sc xs (i + 2)) := sc_rng
  refine z_callV X 179 (rm := rmN 267) (As := [.int (Int32.ofInt (sc xs (i + 1))), .int (Int32.ofInt (sc xs (i + 2)))]) (st := []) rfl rfl (by decide) rfl (by rw [E.1, E.2.1, E.2.2.1]; exact k_pairs G Is11 JRLx_s11 (by first | exact ⟨sr13.1, sr13.2⟩ | omega) (by first | exact ⟨sr14.1, sr14.2⟩ | omega)) ⟨by rw [E.2.2.2]; exact (show 62 + 1 ≤ 2048 from oq_03e28196), by rw [E.2.2.2]; exact (show 8 + (3 + 11) + 2686 ≤ 84000 from oq_1f8b0a4c), by rw [E.2.2.2]; exact (show (ce + 2) + 0 ≤ 601024 by omega), by rw [E.2.2.2]; exact (show (sl + 12) + 0 ≤ 7293034 by omega)⟩ (Nat.le_of_ble_eq_true rfl) (fun vv s15 hq => ?_) (fun ee s15 hq => ?_)
  rotate_left
  · obtain ⟨Is15, Fs15, JRLx_s15, e16, hv, hrs15, hps15⟩ := hq; cases hv
  obtain ⟨Is15, Fs15, JRLx_s15, e16, hv, hrs15, hps15⟩ := hq
  cases hv
  have JRLx_s15 : RLx s15 := RLx_fm Fs15 (by decide) JRLx_s11
  have JFEQ_s15 : FEQ s15 := FEQ_fm Fs15 (by decide) JFEQ_s11
  have JARJ_s15 : ARJ s15 := ARJ_fm Fs15 ⟨by decide +kernel, by decide +kernel, by decide +kernel, by decide +kernel, by decide +kernel, by decide +kernel, by decide +kernel, by decide +kernel⟩ JARJ_s11
  have JPTJ_s15 : PTJ s15 := PTJ_fm Fs15 (by decide +kernel) JPTJ_s11
  have ws15_0 : iI s15 0 = iI s11 0 := fm_iq Fs15 rfl
  have ws15_74 : iI s15 74 = iI s11 74 := fm_iq Fs15 rfl
  have ws15_9 : iI s15 9 = iI s11 9 := fm_iq Fs15 rfl
  have ws15_90 : iI s15 90 = iI s11 90 := fm_iq Fs15 rfl
  have ws15_20 : iI s15 20 = iI s11 20 := fm_iq Fs15 rfl
  have ws15_98 : iI s15 98 = iI s11 98 := fm_iq Fs15 rfl
  have ws15_12 : iI s15 12 = iI s11 12 := fm_iq Fs15 rfl
  have b17 := bi_89 Is15
  have wos15 : iO s15 = iO s11 := fm_o Fs15 (by decide)
  replace hps15 := hps15 (by clear hps15; omega)
  show WS k 1166 [(5, .int (Int32.ofInt e12)), (0, .ref q1), (1, .ref (A 0)), (2, .ref (A 179)), (3, .ref (A 517)), (4, .int (Int32.ofInt i))] [.int (Int32.ofInt e16)] (Wd A dT s15) (ce + 2) (sl + 12)
  refine z_store X (lv' := [(6, .int (Int32.ofInt e16)), (5, .int (Int32.ofInt e12)), (0, .ref q1), (1, .ref (A 0)), (2, .ref (A 179)), (3, .ref (A 517)), (4, .int (Int32.ofInt i))]) rfl (by decide) (fun _ h => h) (z_goto X (t := 1894) rfl rfl (w_widen (ce' := ce + 29) (sl' := sl + 222) (by first | exact Nat.le_add_right _ _ | exact Nat.add_le_add_left (by decide) _ | omega) (by first | exact Nat.le_add_right _ _ | exact Nat.add_le_add_left (by decide) _ | omega) ?_))
  exact WS_lv (lv := [(0, .ref q1), (1, .ref (A 0)), (2, .ref (A 179)), (3, .ref (A 517)), (4, .int (Int32.ofInt i))]) (List.forall_mem_cons.mpr ⟨(List.Mem.tail _ (List.Mem.tail _ (List.Mem.head _))), (List.forall_mem_cons.mpr ⟨(List.Mem.tail _ (List.Mem.tail _ (List.Mem.tail _ (List.Mem.head _)))), (List.forall_mem_cons.mpr ⟨(List.Mem.tail _ (List.Mem.tail _ (List.Mem.tail _ (List.Mem.tail _ (List.Mem.head _))))), (List.forall_mem_cons.mpr ⟨(List.Mem.tail _ (List.Mem.tail _ (List.Mem.tail _ (List.Mem.tail _ (List.Mem.tail _ (List.Mem.head _)))))), (List.forall_mem_cons.mpr ⟨(List.Mem.tail _ (List.Mem.tail _ (List.Mem.tail _ (List.Mem.tail _ (List.Mem.tail _ (List.Mem.tail _ (List.Mem.head _))))))), (fun q h => absurd h List.not_mem_nil)⟩)⟩)⟩)⟩)⟩) (hk A _ Is15 JRLx_s15 JFEQ_s15 JARJ_s15 JPTJ_s15 (by first | exact oq_e8f78630 b17.1 hps15 ws11_89 b8.1 p1 | omega) (by first | exact oq_d7ce4408 ws15_12 ws11_12 p2 | omega) (by first | exact oq_5bcdc35f ws15_74 ws15_0 ws11_74 ws11_0 p3 | omega) (by first | exact oq_5bcdc35f ws15_90 ws15_9 ws11_90 ws11_9 p4 | omega) (by first | exact oq_5bcdc35f ws15_98 ws15_20 ws11_98 ws11_20 p5 | omega))
theorem lc_27 (G : GX l s0 D tys a0 dT) (GR : RS0 s0) (SF : SF0 s0) (GT : TXs0 s0) (GW : TXw0 s0) {k : kx_T} (X : AX k 350 dT) (E : kL k = l ∧ kS0 k = s0 ∧ kD k = D ∧ kR k = room_1) {q1 L : Nat} {xs : Nat → Int32} (S : SX k q1 L xs) (hL : L ≤ 3072) (I : Bd s) (jR : RLx s) (jFEQ : FEQ s) (jARJ : ARJ s) (jPTJ : PTJ s) (p1 : iI s 89 = 1) (p2 : iI s 12 ≤ 8) (p3 : iI s 0 = iI s 74) (p4 : iI s 9 = iI s 90) (p5 : iI s 20 = iI s 98) {i : Int} (hi : 0 ≤ i ∧ i + 6 ≤ (L : Int)) {ce sl : Nat} (hce : ce + 29 ≤ 601024) (hsl : sl + 222 ≤ 7293034) (hk : ∀ (A : Nat → Nat) (t : PS), Bd t → RLx t → FEQ t → ARJ t → PTJ t → iI t 89 = 1 → iI t 12 ≤ 8 → iI t 0 = iI t 74 → iI t 9 = iI t 90 → iI t 20 = iI t 98 → WS k 1894 [(0, .ref q1), (1, .ref (A 0)), (2, .ref (A 179)), (3, .ref (A 517)), (4, .int (Int32.ofInt i))] [] (Wd A dT t) (ce + 29) (sl + 222)) : WS k 1171 [(0, .ref q1), (1, .ref (A 0)), (2, .ref (A 179)), (3, .ref (A 517)), (4, .int (Int32.ofInt i))] [] (Wd A dT s) ce sl := by
  have F : Fm [33, 73, 96] [1460] s s := fm_rf _ _ s
  have b1 := bi_0 I
  have b2 := bi_74 I
  have b3 := bi_9 I
  have b4 := bi_90 I
  have b5 := bi_20 I
  have b6 := bi_98 I
  have b7 := bi_12 I
  have b8 := bi_89 I
  refine z_aload_n X (x := A 0) rfl (List.Mem.tail _ (List.Mem.head _)) (z_aload_n X (x := q1) rfl (List.Mem.head _) (z_load X (x := i) rfl (List.Mem.tail _ (List.Mem.tail _ (List.Mem.tail _ (List.Mem.tail _ (List.Mem.head _))))) (z_const X rfl (z_add X rfl (z_sld X S hL rfl (show 0 ≤ (i + 1) ∧ (i + 1) < (L : Int) by first | exact sx_in hi (by decide) | omega) ?_)))))
  have sr9 : rng (sc xs (i + 1)) := sc_rng
  refine z_aload_n X (x := A 517) rfl (List.Mem.tail _ (List.Mem.tail _ (List.Mem.tail _ (List.Mem.head _)))) (z_callL X (rm := rmN 336) (As := [.ref (A 0), .int (Int32.ofInt (sc xs (i + 1))), .ref (A 517)]) (st := []) rfl (by decide) rfl (by rw [E.1, E.2.1, E.2.2.1]; exact lw_busy G I (by omega)) ⟨by rw [E.2.2.2]; exact (show 8 + 1 ≤ 2048 by decide), by rw [E.2.2.2]; exact (show 8 + (4 + 11) + 145 ≤ 84000 by decide), by rw [E.2.2.2]; exact (show ce + 1 ≤ 601024 by first | exact rmo_1 hce (by decide) | exact rmo_2 hce (by decide) | omega), by rw [E.2.2.2]; exact (show sl + 6 ≤ 7293034 by first | exact rmo_1 hsl (by decide) | exact rmo_2 hsl (by decide) | omega)⟩ (Nat.le_of_ble_eq_true rfl) (fun vv A s10 hA2 hq => ?_) (fun ee A s10 hA2 hq => ?_))
  rotate_left
  · obtain ⟨Is10, Fs10, e11, hv, hrs10, hps10⟩ := hq; cases hv
  obtain ⟨Is10, Fs10, e11, hv, hrs10, hps10⟩ := hq
  cases hv
  rw [← hA2 0 (by decide)]
  rw [← hA2 179 (by decide)]
  rw [← hA2 517 (by decide)]
  have JRLx_s10 : RLx s10 := RLx_fm Fs10 (by decide) jR
  have JFEQ_s10 : FEQ s10 := FEQ_fm Fs10 (by decide) jFEQ
  have JARJ_s10 : ARJ s10 := ARJ_fm Fs10 ⟨by decide +kernel, by decide +kernel, by decide +kernel, by decide +kernel, by decide +kernel, by decide +kernel, by decide +kernel, by decide +kernel⟩ jARJ
  have JPTJ_s10 : PTJ s10 := PTJ_fm Fs10 (by decide +kernel) jPTJ
  have ws10_0 : iI s10 0 = iI s 0 := fm_iq Fs10 rfl
  have ws10_74 : iI s10 74 = iI s 74 := fm_iq Fs10 rfl
  have ws10_9 : iI s10 9 = iI s 9 := fm_iq Fs10 rfl
  have ws10_90 : iI s10 90 = iI s 90 := fm_iq Fs10 rfl
  have ws10_20 : iI s10 20 = iI s 20 := fm_iq Fs10 rfl
  have ws10_98 : iI s10 98 = iI s 98 := fm_iq Fs10 rfl
  have ws10_12 : iI s10 12 = iI s 12 := fm_iq Fs10 rfl
  have ws10_89 : iI s10 89 = iI s 89 := fm_iq Fs10 rfl
  show WS k 1182 [(0, .ref q1), (1, .ref (A 0)), (2, .ref (A 179)), (3, .ref (A 517)), (4, .int (Int32.ofInt i))] [.int (Int32.ofInt e11)] (Wd A dT s10) (ce + 1) (sl + 6)
  refine z_store X (lv' := [(5, .int (Int32.ofInt e11)), (0, .ref q1), (1, .ref (A 0)), (2, .ref (A 179)), (3, .ref (A 517)), (4, .int (Int32.ofInt i))]) rfl (by decide) (fun _ h => h) (z_aload_n X (x := A 179) rfl (List.Mem.tail _ (List.Mem.tail _ (List.Mem.tail _ (List.Mem.head _)))) (z_aload_n X (x := q1) rfl (List.Mem.tail _ (List.Mem.head _)) (z_load X (x := i) rfl (List.Mem.tail _ (List.Mem.tail _ (List.Mem.tail _ (List.Mem.tail _ (List.Mem.tail _ (List.Mem.head _)))))) (z_const X rfl (z_add X rfl (z_sld X S hL rfl (show 0 ≤ (i + 1) ∧ (i + 1) < (L : Int) by first | exact sx_in hi (by decide) | omega) ?_))))))
  have sr12 : rng (sc xs (i + 1)) := sc_rng
  refine z_callV X 179 (rm := rmN 268) (As := [.int (Int32.ofInt (sc xs (i + 1)))]) (st := []) rfl rfl (by decide) rfl (by rw [E.1, E.2.1, E.2.2.1]; exact k_busy G Is10 (by first | exact ⟨sr12.1, sr12.2⟩ | omega)) ⟨by rw [E.2.2.2]; exact (show 7 + 1 ≤ 2048 from oq_4e6106eb), by rw [E.2.2.2]; exact (show 8 + (3 + 11) + 122 ≤ 84000 from oq_38d194b9), by rw [E.2.2.2]; exact (show (ce + 1) + 0 ≤ 601024 by omega), by rw [E.2.2.2]; exact (show (sl + 6) + 0 ≤ 7293034 by omega)⟩ (Nat.le_of_ble_eq_true rfl) (fun vv s13 hq => ?_) (fun ee s13 hq => ?_)
  rotate_left
  · obtain ⟨Is13, Fs13, e14, hv, hrs13, hps13⟩ := hq; cases hv
  obtain ⟨Is13, Fs13, e14, hv, hrs13, hps13⟩ := hq
  cases hv
  have JRLx_s13 : RLx s13 := RLx_fm Fs13 (by decide) JRLx_s10
  have JFEQ_s13 : FEQ s13 := FEQ_fm Fs13 (by decide) JFEQ_s10
  have JARJ_s13 : ARJ s13 := ARJ_fm Fs13 ⟨by decide +kernel, by decide +kernel, by decide +kernel, by decide +kernel, by decide +kernel, by decide +kernel, by decide +kernel, by decide +kernel⟩ JARJ_s10
  have JPTJ_s13 : PTJ s13 := PTJ_fm Fs13 (by decide +kernel) JPTJ_s10
  have ws13_0 : iI s13 0 = iI s10 0 := fm_iq Fs13 rfl
  have ws13_74 : iI s13 74 = iI s10 74 := fm_iq Fs13 rfl
  have ws13_9 : iI s13 9 = iI s10 9 := fm_iq Fs13 rfl
  have ws13_90 : iI s13 90 = iI s10 90 := fm_iq Fs13 rfl
  have ws13_20 : iI s13 20 = iI s10 20 := fm_iq Fs13 rfl
  have ws13_98 : iI s13 98 = iI s10 98 := fm_iq Fs13 rfl
  have ws13_12 : iI s13 12 = iI s10 12 := fm_iq Fs13 rfl
  have ws13_89 : iI s13 89 = iI s10 89 := fm_iq Fs13 rfl
  have wos13 : iO s13 = iO s10 := fm_o Fs13 (by decide)
  show WS k 1194 [(5, .int (Int32.ofInt e11)), (0, .ref q1), (1, .ref (A 0)), (2, .ref (A 179)), (3, .ref (A 517)), (4, .int (Int32.ofInt i))] [.int (Int32.ofInt e14)] (Wd A dT s13) (ce + 1) (sl + 6)
  refine z_store X (lv' := [(6, .int (Int32.ofInt e14)), (5, .int (Int32.ofInt e11)), (0, .ref q1), (1, .ref (A 0)), (2, .ref (A 179)), (3, .ref (A 517)), (4, .int (Int32.ofInt i))]) rfl (by decide) (fun _ h => h) (z_goto X (t := 1894) rfl rfl (w_widen (ce' := ce + 29) (sl' := sl + 222) (by first | exact Nat.le_add_right _ _ | exact Nat.add_le_add_left (by decide) _ | omega) (by first | exact Nat.le_add_right _ _ | exact Nat.add_le_add_left (by decide) _ | omega) ?_))
  exact WS_lv (lv := [(0, .ref q1), (1, .ref (A 0)), (2, .ref (A 179)), (3, .ref (A 517)), (4, .int (Int32.ofInt i))]) (List.forall_mem_cons.mpr ⟨(List.Mem.tail _ (List.Mem.tail _ (List.Mem.head _))), (List.forall_mem_cons.mpr ⟨(List.Mem.tail _ (List.Mem.tail _ (List.Mem.tail _ (List.Mem.head _)))), (List.forall_mem_cons.mpr ⟨(List.Mem.tail _ (List.Mem.tail _ (List.Mem.tail _ (List.Mem.tail _ (List.Mem.head _))))), (List.forall_mem_cons.mpr ⟨(List.Mem.tail _ (List.Mem.tail _ (List.Mem.tail _ (List.Mem.tail _ (List.Mem.tail _ (List.Mem.head _)))))), (List.forall_mem_cons.mpr ⟨(List.Mem.tail _ (List.Mem.tail _ (List.Mem.tail _ (List.Mem.tail _ (List.Mem.tail _ (List.Mem.tail _ (List.Mem.head _))))))), (fun q h => absurd h List.not_mem_nil)⟩)⟩)⟩)⟩)⟩) (hk A _ Is13 JRLx_s13 JFEQ_s13 JARJ_s13 JPTJ_s13 (by first | exact oq_f34933ba ws13_89 ws10_89 p1 b8.1 | omega) (by first | exact oq_d7ce4408 ws13_12 ws10_12 p2 | omega) (by first | exact oq_5bcdc35f ws13_74 ws13_0 ws10_74 ws10_0 p3 | omega) (by first | exact oq_5bcdc35f ws13_90 ws13_9 ws10_90 ws10_9 p4 | omega) (by first | exact oq_5bcdc35f ws13_98 ws13_20 ws10_98 ws10_20 p5 | omega))
theorem lc_28 (G : GX l s0 D tys a0 dT) (GR : RS0 s0) (SF : SF0 s0) (GT : TXs0 s0) (GW : TXw0 s0) {k : kx_T} (X : AX k 350 dT) (E : kL k = l ∧ kS0 k = s0 ∧ kD k = D ∧ kR k = room_1) {q1 L : Nat} {xs : Nat → Int32} (S : SX k q1 L xs) (hL : L ≤ 3072) (I : Bd s) (jR : RLx s) (jFEQ : FEQ s) (jARJ : ARJ s) (jPTJ : PTJ s) (p1 : iI s 89 = 1) (p2 : iI s 12 ≤ 8) (p3 : iI s 0 = iI s 74) (p4 : iI s 9 = iI s 90) (p5 : iI s 20 = iI s 98) {i : Int} (hi : 0 ≤ i ∧ i + 6 ≤ (L : Int)) {ce sl : Nat} (hce : ce + 29 ≤ 601024) (hsl : sl + 222 ≤ 7293034) (hk : ∀ (A : Nat → Nat) (t : PS), Bd t → RLx t → FEQ t → ARJ t → PTJ t → iI t 89 = 1 → iI t 12 ≤ 8 → iI t 0 = iI t 74 → iI t 9 = iI t 90 → iI t 20 = iI t 98 → WS k 1894 [(0, .ref q1), (1, .ref (A 0)), (2, .ref (A 179)), (3, .ref (A 517)), (4, .int (Int32.ofInt i))] [] (Wd A dT t) (ce + 29) (sl + 222)) : WS k 1199 [(0, .ref q1), (1, .ref (A 0)), (2, .ref (A 179)), (3, .ref (A 517)), (4, .int (Int32.ofInt i))] [] (Wd A dT s) ce sl := by
  have F : Fm [22, 23, 24, 34, 35, 73, 77, 75, 78, 79, 80, 81, 89] [33, 26, 27, 28, 29, 30, 31, 32, 20, 48, 47, 49, 50, 51, 1460, 161, 230, 202, 204, 205, 206, 207, 208, 209, 210, 211, 212, 213, 214, 215, 216, 217, 218, 219, 220, 221, 222, 223, 224, 225, 226, 227, 203, 395, 396, 245, 246, 247, 248, 249, 250, 251, 252, 253, 254, 255, 256, 257, 258, 259, 260, 261, 262, 263, 264, 265, 266, 267, 268, 269, 270, 271, 272, 273, 274, 275, 276, 277, 278, 279, 280, 281, 282, 283, 284, 285, 286, 287, 288, 289, 290, 291, 292, 293, 294, 295, 296, 297, 298, 299, 300, 301, 302, 303, 304, 305, 306, 307, 308, 309, 310, 311, 312, 313, 314, 315, 316, 317, 318, 319, 320, 321, 322, 323, 324, 325, 326, 327, 328, 329, 330, 331, 332, 333, 334, 335, 336, 337, 338, 339, 340, 341, 342, 343, 344, 345, 346, 347, 348, 349, 350, 351, 352, 353, 354, 355, 356, 357, 358, 359, 360, 361, 362, 363, 364, 365, 366, 367, 368, 369, 370, 371, 372, 373, 374, 375, 376, 377, 378, 379, 380, 381, 382, 383, 384, 385, 386, 387, 388, 389, 390, 391, 392, 393, 394] s s := fm_rf _ _ s
  have b1 := bi_0 I
  have b2 := bi_74 I
  have b3 := bi_9 I
  have b4 := bi_90 I
  have b5 := bi_20 I
  have b6 := bi_98 I
  have b7 := bi_12 I
  have b8 := bi_89 I
  refine z_aload_n X (x := A 0) rfl (List.Mem.tail _ (List.Mem.head _)) (z_aload_n X (x := q1) rfl (List.Mem.head _) (z_load X (x := i) rfl (List.Mem.tail _ (List.Mem.tail _ (List.Mem.tail _ (List.Mem.tail _ (List.Mem.head _))))) (z_const X rfl (z_add X rfl (z_sld X S hL rfl (show 0 ≤ (i + 1) ∧ (i + 1) < (L : Int) by first | exact sx_in hi (by decide) | omega) ?_)))))
  have sr9 : rng (sc xs (i + 1)) := sc_rng
  refine z_aload_n X (x := q1) rfl (List.Mem.head _) (z_load X (x := i) rfl (List.Mem.tail _ (List.Mem.tail _ (List.Mem.tail _ (List.Mem.tail _ (List.Mem.head _))))) (z_const X rfl (z_add X rfl (z_sld X S hL rfl (show 0 ≤ (i + 2) ∧ (i + 2) < (L : Int) by first | exact sx_in hi (by decide) | omega) ?_))))
  have sr10 : rng (sc xs (i + 2)) := sc_rng
  refine z_aload_n X (x := A 517) rfl (List.Mem.tail _ (List.Mem.tail _ (List.Mem.tail _ (List.Mem.head _)))) (z_callL X (rm := rmN 337) (As := [.ref (A 0), .int (Int32.ofInt (sc xs (i + 1))), .int (Int32.ofInt (sc xs (i + 2))), .ref (A 517)]) (st := []) rfl (by decide) rfl (by rw [E.1, E.2.1, E.2.2.1]; exact lw_plan G I (by omega) (by omega) (by omega)) ⟨by rw [E.2.2.2]; exact (show 13 + 1 ≤ 2048 by decide), by rw [E.2.2.2]; exact (show 8 + (5 + 11) + 273 ≤ 84000 by decide), by rw [E.2.2.2]; exact (show ce + 2 ≤ 601024 by first | exact rmo_1 hce (by decide) | exact rmo_2 hce (by decide) | omega), by rw [E.2.2.2]; exact (show sl + 12 ≤ 7293034 by first | exact rmo_1 hsl (by decide) | exact rmo_2 hsl (by decide) | omega)⟩ (Nat.le_of_ble_eq_true rfl) (fun vv A s11 hA2 hq => ?_) (fun ee A s11 hA2 hq => ?_))
  rotate_left
  · obtain ⟨Is11, Fs11, e12, hv, hrs11, hps11⟩ := hq; cases hv
  obtain ⟨Is11, Fs11, e12, hv, hrs11, hps11⟩ := hq
  cases hv
  rw [← hA2 0 (by decide)]
  rw [← hA2 179 (by decide)]
  rw [← hA2 517 (by decide)]
  have JRLx_s11 : RLx s11 := RLx_fm Fs11 (by decide) jR
  have JFEQ_s11 : FEQ s11 := FEQ_fm Fs11 (by decide) jFEQ
  have JARJ_s11 : ARJ s11 := ARJ_fm Fs11 ⟨by decide +kernel, by decide +kernel, by decide +kernel, by decide +kernel, by decide +kernel, by decide +kernel, by decide +kernel, by decide +kernel⟩ jARJ
  have JPTJ_s11 : PTJ s11 := PTJ_fm Fs11 (by decide +kernel) jPTJ
  have ws11_0 : iI s11 0 = iI s 0 := fm_iq Fs11 rfl
  have ws11_74 : iI s11 74 = iI s 74 := fm_iq Fs11 rfl
  have ws11_9 : iI s11 9 = iI s 9 := fm_iq Fs11 rfl
  have ws11_90 : iI s11 90 = iI s 90 := fm_iq Fs11 rfl
  have ws11_20 : iI s11 20 = iI s 20 := fm_iq Fs11 rfl
  have ws11_98 : iI s11 98 = iI s 98 := fm_iq Fs11 rfl
  have ws11_12 : iI s11 12 = iI s 12 := fm_iq Fs11 rfl
  have ws11_89 : iI s11 89 = iI s 89 := fm_iq Fs11 rfl
  show WS k 1216 [(0, .ref q1), (1, .ref (A 0)), (2, .ref (A 179)), (3, .ref (A 517)), (4, .int (Int32.ofInt i))] [.int (Int32.ofInt e12)] (Wd A dT s11) (ce + 2) (sl + 12)
  refine z_store X (lv' := [(5, .int (Int32.ofInt e12)), (0, .ref q1), (1, .ref (A 0)), (2, .ref (A 179)), (3, .ref (A 517)), (4, .int (Int32.ofInt i))]) rfl (by decide) (fun _ h => h) (z_aload_n X (x := A 179) rfl (List.Mem.tail _ (List.Mem.tail _ (List.Mem.tail _ (List.Mem.head _)))) (z_aload_n X (x := q1) rfl (List.Mem.tail _ (List.Mem.head _)) (z_load X (x := i) rfl (List.Mem.tail _ (List.Mem.tail _ (List.Mem.tail _ (List.Mem.tail _ (List.Mem.tail _ (List.Mem.head _)))))) (z_const X rfl (z_add X rfl (z_sld X S hL rfl (show 0 ≤ (i + 1) ∧ (i + 1) < (L : Int) by first | exact sx_in hi (by decide) | omega) ?_))))))
  have sr13 : rng (sc xs (i + 1)) := sc_rng
  refine z_aload_n X (x := q1) rfl (List.Mem.tail _ (List.Mem.head _)) (z_load X (x := i) rfl (List.Mem.tail _ (List.Mem.tail _ (List.Mem.tail _ (List.Mem.tail _ (List.Mem.tail _ (List.Mem.head _)))))) (z_const X rfl (z_add X rfl (z_sld X S hL rfl (show 0 ≤ (i + 2) ∧ (i + 2) < (L : Int) by first | exact sx_in hi (by decide) | omega) ?_))))
  have sr14 : rng (sc xs (i + 2)) := sc_rng
  refine z_callV X 179 (rm := rmN 272) (As := [.int (Int32.ofInt (sc xs (i + 1))), .int (Int32.ofInt (sc xs (i + 2)))]) (st := []) rfl rfl (by decide) rfl (by rw [E.1, E.2.1, E.2.2.1]; exact k_plan G Is11 JRLx_s11 (by first | exact ⟨sr13.1, sr13.2⟩ | omega) (by first | exact ⟨sr14.1, sr14.2⟩ | omega) (by first | exact oq_b44a1c7f ws11_89 p1 b8.1 | omega)) ⟨by rw [E.2.2.2]; exact (show 64 + 1 ≤ 2048 from oq_5cbe2cb6), by rw [E.2.2.2]; exact (show 8 + (6 + 11) + 2742 ≤ 84000 from oq_276d7037), by rw [E.2.2.2]; exact (show (ce + 2) + 0 ≤ 601024 by omega), by rw [E.2.2.2]; exact (show (sl + 12) + 0 ≤ 7293034 by omega)⟩ (Nat.le_of_ble_eq_true rfl) (fun vv s15 hq => ?_) (fun ee s15 hq => ?_)
  rotate_left
  · obtain ⟨Is15, Fs15, JRLx_s15, e16, hv, hrs15, hps15⟩ := hq; cases hv
  obtain ⟨Is15, Fs15, JRLx_s15, e16, hv, hrs15, hps15⟩ := hq
  cases hv
  have JRLx_s15 : RLx s15 := RLx_fm Fs15 (by decide) JRLx_s11
  have JFEQ_s15 : FEQ s15 := FEQ_fm Fs15 (by decide) JFEQ_s11
  have JARJ_s15 : ARJ s15 := ARJ_fm Fs15 ⟨by decide +kernel, by decide +kernel, by decide +kernel, by decide +kernel, by decide +kernel, by decide +kernel, by decide +kernel, by decide +kernel⟩ JARJ_s11
  have JPTJ_s15 : PTJ s15 := PTJ_fm Fs15 (by decide +kernel) JPTJ_s11
  have ws15_0 : iI s15 0 = iI s11 0 := fm_iq Fs15 rfl
  have ws15_74 : iI s15 74 = iI s11 74 := fm_iq Fs15 rfl
  have ws15_9 : iI s15 9 = iI s11 9 := fm_iq Fs15 rfl
  have ws15_90 : iI s15 90 = iI s11 90 := fm_iq Fs15 rfl
  have ws15_20 : iI s15 20 = iI s11 20 := fm_iq Fs15 rfl
  have ws15_98 : iI s15 98 = iI s11 98 := fm_iq Fs15 rfl
  have ws15_12 : iI s15 12 = iI s11 12 := fm_iq Fs15 rfl
  have b17 := bi_89 Is15
  have wos15 : iO s15 = iO s11 := fm_o Fs15 (by decide)
  show WS k 1234 [(5, .int (Int32.ofInt e12)), (0, .ref q1), (1, .ref (A 0)), (2, .ref (A 179)), (3, .ref (A 517)), (4, .int (Int32.ofInt i))] [.int (Int32.ofInt e16)] (Wd A dT s15) (ce + 2) (sl + 12)
  refine z_store X (lv' := [(6, .int (Int32.ofInt e16)), (5, .int (Int32.ofInt e12)), (0, .ref q1), (1, .ref (A 0)), (2, .ref (A 179)), (3, .ref (A 517)), (4, .int (Int32.ofInt i))]) rfl (by decide) (fun _ h => h) (z_goto X (t := 1894) rfl rfl (w_widen (ce' := ce + 29) (sl' := sl + 222) (by first | exact Nat.le_add_right _ _ | exact Nat.add_le_add_left (by decide) _ | omega) (by first | exact Nat.le_add_right _ _ | exact Nat.add_le_add_left (by decide) _ | omega) ?_))
  exact WS_lv (lv := [(0, .ref q1), (1, .ref (A 0)), (2, .ref (A 179)), (3, .ref (A 517)), (4, .int (Int32.ofInt i))]) (List.forall_mem_cons.mpr ⟨(List.Mem.tail _ (List.Mem.tail _ (List.Mem.head _))), (List.forall_mem_cons.mpr ⟨(List.Mem.tail _ (List.Mem.tail _ (List.Mem.tail _ (List.Mem.head _)))), (List.forall_mem_cons.mpr ⟨(List.Mem.tail _ (List.Mem.tail _ (List.Mem.tail _ (List.Mem.tail _ (List.Mem.head _))))), (List.forall_mem_cons.mpr ⟨(List.Mem.tail _ (List.Mem.tail _ (List.Mem.tail _ (List.Mem.tail _ (List.Mem.tail _ (List.Mem.head _)))))), (List.forall_mem_cons.mpr ⟨(List.Mem.tail _ (List.Mem.tail _ (List.Mem.tail _ (List.Mem.tail _ (List.Mem.tail _ (List.Mem.tail _ (List.Mem.head _))))))), (fun q h => absurd h List.not_mem_nil)⟩)⟩)⟩)⟩)⟩) (hk A _ Is15 JRLx_s15 JFEQ_s15 JARJ_s15 JPTJ_s15 (by first | exact hps15 | omega) (by first | exact oq_d7ce4408 ws15_12 ws11_12 p2 | omega) (by first | exact oq_5bcdc35f ws15_74 ws15_0 ws11_74 ws11_0 p3 | omega) (by first | exact oq_5bcdc35f ws15_90 ws15_9 ws11_90 ws11_9 p4 | omega) (by first | exact oq_5bcdc35f ws15_98 ws15_20 ws11_98 ws11_20 p5 | omega))
theorem lc_29 (G : GX l s0 D tys a0 dT) (GR : RS0 s0) (SF : SF0 s0) (GT : TXs0 s0) (GW : TXw0 s0) {k : kx_T} (X : AX k 350 dT) (E : kL k = l ∧ kS0 k = s0 ∧ kD k = D ∧ kR k = room_1) {q1 L : Nat} {xs : Nat → Int32} (S : SX k q1 L xs) (hL : L ≤ 3072) (I : Bd s) (jR : RLx s) (jFEQ : FEQ s) (jARJ : ARJ s) (jPTJ : PTJ s) (p1 : iI s 89 = 1) (p2 : iI s 12 ≤ 8) (p3 : iI s 0 = iI s 74) (p4 : iI s 9 = iI s 90) (p5 : iI s 20 = iI s 98) {i : Int} (hi : 0 ≤ i ∧ i + 6 ≤ (L : Int)) {ce sl : Nat} (hce : ce + 29 ≤ 601024) (hsl : sl + 222 ≤ 7293034) (hk : ∀ (A : Nat → Nat) (t : PS), Bd t → RLx t → FEQ t → ARJ t → PTJ t → iI t 89 = 1 → iI t 12 ≤ 8 → iI t 0 = iI t 74 → iI t 9 = iI t 90 → iI t 20 = iI t 98 → WS k 1894 [(0, .ref q1), (1, .ref (A 0)), (2, .ref (A 179)), (3, .ref (A 517)), (4, .int (Int32.ofInt i))] [] (Wd A dT t) (ce + 29) (sl + 222)) : WS k 1239 [(0, .ref q1), (1, .ref (A 0)), (2, .ref (A 179)), (3, .ref (A 517)), (4, .int (Int32.ofInt i))] [] (Wd A dT s) ce sl := by
  have F : Fm [36, 37, 73, 102, 103] [1460] s s := fm_rf _ _ s
  have b1 := bi_0 I
  have b2 := bi_74 I
  have b3 := bi_9 I
  have b4 := bi_90 I
  have b5 := bi_20 I
  have b6 := bi_98 I
  have b7 := bi_12 I
  have b8 := bi_89 I
  refine z_aload_n X (x := A 0) rfl (List.Mem.tail _ (List.Mem.head _)) (z_aload_n X (x := q1) rfl (List.Mem.head _) (z_load X (x := i) rfl (List.Mem.tail _ (List.Mem.tail _ (List.Mem.tail _ (List.Mem.tail _ (List.Mem.head _))))) (z_const X rfl (z_add X rfl (z_sld X S hL rfl (show 0 ≤ (i + 1) ∧ (i + 1) < (L : Int) by first | exact sx_in hi (by decide) | omega) ?_)))))
  have sr9 : rng (sc xs (i + 1)) := sc_rng
  refine z_aload_n X (x := q1) rfl (List.Mem.head _) (z_load X (x := i) rfl (List.Mem.tail _ (List.Mem.tail _ (List.Mem.tail _ (List.Mem.tail _ (List.Mem.head _))))) (z_const X rfl (z_add X rfl (z_sld X S hL rfl (show 0 ≤ (i + 2) ∧ (i + 2) < (L : Int) by first | exact sx_in hi (by decide) | omega) ?_))))
  have sr10 : rng (sc xs (i + 2)) := sc_rng
  refine z_aload_n X (x := A 517) rfl (List.Mem.tail _ (List.Mem.tail _ (List.Mem.tail _ (List.Mem.head _)))) (z_callL X (rm := rmN 338) (As := [.ref (A 0), .int (Int32.ofInt (sc xs (i + 1))), .int (Int32.ofInt (sc xs (i + 2))), .ref (A 517)]) (st := []) rfl (by decide) rfl (by rw [E.1, E.2.1, E.2.2.1]; exact lw_hours G I (by omega) (by omega)) ⟨by rw [E.2.2.2]; exact (show 8 + 1 ≤ 2048 by decide), by rw [E.2.2.2]; exact (show 8 + (5 + 11) + 145 ≤ 84000 by decide), by rw [E.2.2.2]; exact (show ce + 2 ≤ 601024 by first | exact rmo_1 hce (by decide) | exact rmo_2 hce (by decide) | omega), by rw [E.2.2.2]; exact (show sl + 12 ≤ 7293034 by first | exact rmo_1 hsl (by decide) | exact rmo_2 hsl (by decide) | omega)⟩ (Nat.le_of_ble_eq_true rfl) (fun vv A s11 hA2 hq => ?_) (fun ee A s11 hA2 hq => ?_))
  rotate_left
  · obtain ⟨Is11, Fs11, e12, hv, hrs11, hps11⟩ := hq; cases hv
  obtain ⟨Is11, Fs11, e12, hv, hrs11, hps11⟩ := hq
  cases hv
  rw [← hA2 0 (by decide)]
  rw [← hA2 179 (by decide)]
  rw [← hA2 517 (by decide)]
  have JRLx_s11 : RLx s11 := RLx_fm Fs11 (by decide) jR
  have JFEQ_s11 : FEQ s11 := FEQ_fm Fs11 (by decide) jFEQ
  have JARJ_s11 : ARJ s11 := ARJ_fm Fs11 ⟨by decide +kernel, by decide +kernel, by decide +kernel, by decide +kernel, by decide +kernel, by decide +kernel, by decide +kernel, by decide +kernel⟩ jARJ
  have JPTJ_s11 : PTJ s11 := PTJ_fm Fs11 (by decide +kernel) jPTJ
  have ws11_0 : iI s11 0 = iI s 0 := fm_iq Fs11 rfl
  have ws11_74 : iI s11 74 = iI s 74 := fm_iq Fs11 rfl
  have ws11_9 : iI s11 9 = iI s 9 := fm_iq Fs11 rfl
  have ws11_90 : iI s11 90 = iI s 90 := fm_iq Fs11 rfl
  have ws11_20 : iI s11 20 = iI s 20 := fm_iq Fs11 rfl
  have ws11_98 : iI s11 98 = iI s 98 := fm_iq Fs11 rfl
  have ws11_12 : iI s11 12 = iI s 12 := fm_iq Fs11 rfl
  have ws11_89 : iI s11 89 = iI s 89 := fm_iq Fs11 rfl
  show WS k 1256 [(0, .ref q1), (1, .ref (A 0)), (2, .ref (A 179)), (3, .ref (A 517)), (4, .int (Int32.ofInt i))] [.int (Int32.ofInt e12)] (Wd A dT s11) (ce + 2) (sl + 12)
  refine z_store X (lv' := [(5, .int (Int32.ofInt e12)), (0, .ref q1), (1, .ref (A 0)), (2, .ref (A 179)), (3, .ref (A 517)), (4, .int (Int32.ofInt i))]) rfl (by decide) (fun _ h => h) (z_aload_n X (x := A 179) rfl (List.Mem.tail _ (List.Mem.tail _ (List.Mem.tail _ (List.Mem.head _)))) (z_aload_n X (x := q1) rfl (List.Mem.tail _ (List.Mem.head _)) (z_load X (x := i) rfl (List.Mem.tail _ (List.Mem.tail _ (List.Mem.tail _ (List.Mem.tail _ (List.Mem.tail _ (List.Mem.head _)))))) (z_const X rfl (z_add X rfl (z_sld X S hL rfl (show 0 ≤ (i + 1) ∧ (i + 1) < (L : Int) by first | exact sx_in hi (by decide) | omega) ?_))))))
  have sr13 : rng (sc xs (i + 1)) := sc_rng
  refine z_aload_n X (x := q1) rfl (List.Mem.tail _ (List.Mem.head _)) (z_load X (x := i) rfl (List.Mem.tail _ (List.Mem.tail _ (List.Mem.tail _ (List.Mem.tail _ (List.Mem.tail _ (List.Mem.head _)))))) (z_const X rfl (z_add X rfl (z_sld X S hL rfl (show 0 ≤ (i + 2) ∧ (i + 2) < (L : Int) by first | exact sx_in hi (by decide) | omega) ?_))))
  have sr14 : rng (sc xs (i + 2)) := sc_rng
  refine z_callV X 179 (rm := rmN 273) (As := [.int (Int32.ofInt (sc xs (i + 1))), .int (Int32.ofInt (sc xs (i + 2)))]) (st := []) rfl rfl (by decide) rfl (by rw [E.1, E.2.1, E.2.2.1]; exact k_hours G Is11 (by first | exact ⟨sr13.1, sr13.2⟩ | omega) (by first | exact ⟨sr14.1, sr14.2⟩ | omega)) ⟨by rw [E.2.2.2]; exact (show 7 + 1 ≤ 2048 from oq_4e6106eb), by rw [E.2.2.2]; exact (show 8 + (4 + 11) + 122 ≤ 84000 from oq_ebbf79c1), by rw [E.2.2.2]; exact (show (ce + 2) + 0 ≤ 601024 by omega), by rw [E.2.2.2]; exact (show (sl + 12) + 0 ≤ 7293034 by omega)⟩ (Nat.le_of_ble_eq_true rfl) (fun vv s15 hq => ?_) (fun ee s15 hq => ?_)
  rotate_left
  · obtain ⟨Is15, Fs15, e16, hv, hrs15, hps15⟩ := hq; cases hv
  obtain ⟨Is15, Fs15, e16, hv, hrs15, hps15⟩ := hq
  cases hv
  have JRLx_s15 : RLx s15 := RLx_fm Fs15 (by decide) JRLx_s11
  have JFEQ_s15 : FEQ s15 := FEQ_fm Fs15 (by decide) JFEQ_s11
  have JARJ_s15 : ARJ s15 := ARJ_fm Fs15 ⟨by decide +kernel, by decide +kernel, by decide +kernel, by decide +kernel, by decide +kernel, by decide +kernel, by decide +kernel, by decide +kernel⟩ JARJ_s11
  have JPTJ_s15 : PTJ s15 := PTJ_fm Fs15 (by decide +kernel) JPTJ_s11
  have ws15_0 : iI s15 0 = iI s11 0 := fm_iq Fs15 rfl
  have ws15_74 : iI s15 74 = iI s11 74 := fm_iq Fs15 rfl
  have ws15_9 : iI s15 9 = iI s11 9 := fm_iq Fs15 rfl
  have ws15_90 : iI s15 90 = iI s11 90 := fm_iq Fs15 rfl
  have ws15_20 : iI s15 20 = iI s11 20 := fm_iq Fs15 rfl
  have ws15_98 : iI s15 98 = iI s11 98 := fm_iq Fs15 rfl
  have ws15_12 : iI s15 12 = iI s11 12 := fm_iq Fs15 rfl
  have ws15_89 : iI s15 89 = iI s11 89 := fm_iq Fs15 rfl
  have wos15 : iO s15 = iO s11 := fm_o Fs15 (by decide)
  show WS k 1274 [(5, .int (Int32.ofInt e12)), (0, .ref q1), (1, .ref (A 0)), (2, .ref (A 179)), (3, .ref (A 517)), (4, .int (Int32.ofInt i))] [.int (Int32.ofInt e16)] (Wd A dT s15) (ce + 2) (sl + 12)
  refine z_store X (lv' := [(6, .int (Int32.ofInt e16)), (5, .int (Int32.ofInt e12)), (0, .ref q1), (1, .ref (A 0)), (2, .ref (A 179)), (3, .ref (A 517)), (4, .int (Int32.ofInt i))]) rfl (by decide) (fun _ h => h) (z_goto X (t := 1894) rfl rfl (w_widen (ce' := ce + 29) (sl' := sl + 222) (by first | exact Nat.le_add_right _ _ | exact Nat.add_le_add_left (by decide) _ | omega) (by first | exact Nat.le_add_right _ _ | exact Nat.add_le_add_left (by decide) _ | omega) ?_))
  exact WS_lv (lv := [(0, .ref q1), (1, .ref (A 0)), (2, .ref (A 179)), (3, .ref (A 517)), (4, .int (Int32.ofInt i))]) (List.forall_mem_cons.mpr ⟨(List.Mem.tail _ (List.Mem.tail _ (List.Mem.head _))), (List.forall_mem_cons.mpr ⟨(List.Mem.tail _ (List.Mem.tail _ (List.Mem.tail _ (List.Mem.head _)))), (List.forall_mem_cons.mpr ⟨(List.Mem.tail _ (List.Mem.tail _ (List.Mem.tail _ (List.Mem.tail _ (List.Mem.head _))))), (List.forall_mem_cons.mpr ⟨(List.Mem.tail _ (List.Mem.tail _ (List.Mem.tail _ (List.Mem.tail _ (List.Mem.tail _ (List.Mem.head _)))))), (List.forall_mem_cons.mpr ⟨(List.Mem.tail _ (List.Mem.tail _ (List.Mem.tail _ (List.Mem.tail _ (List.Mem.tail _ (List.Mem.tail _ (List.Mem.head _))))))), (fun q h => absurd h List.not_mem_nil)⟩)⟩)⟩)⟩)⟩) (hk A _ Is15 JRLx_s15 JFEQ_s15 JARJ_s15 JPTJ_s15 (by first | exact oq_f34933ba ws15_89 ws11_89 p1 b8.1 | omega) (by first | exact oq_d7ce4408 ws15_12 ws11_12 p2 | omega) (by first | exact oq_5bcdc35f ws15_74 ws15_0 ws11_74 ws11_0 p3 | omega) (by first | exact oq_5bcdc35f ws15_90 ws15_9 ws11_90 ws11_9 p4 | omega) (by first | exact oq_5bcdc35f ws15_98 ws15_20 ws11_98 ws11_20 p5 | omega))
theorem lc_30 (G : GX l s0 D tys a0 dT) (GR : RS0 s0) (SF : SF0 s0) (GT : TXs0 s0) (GW : TXw0 s0) {k : kx_T} (X : AX k 350 dT) (E : kL k = l ∧ kS0 k = s0 ∧ kD k = D ∧ kR k = room_1) {q1 L : Nat} {xs : Nat → Int32} (S : SX k q1 L xs) (hL : L ≤ 3072) (I : Bd s) (jR : RLx s) (jFEQ : FEQ s) (jARJ : ARJ s) (jPTJ : PTJ s) (p1 : iI s 89 = 1) (p2 : iI s 12 ≤ 8) (p3 : iI s 0 = iI s 74) (p4 : iI s 9 = iI s 90) (p5 : iI s 20 = iI s 98) {i : Int} (hi : 0 ≤ i ∧ i + 6 ≤ (L : Int)) {ce sl : Nat} (hce : ce + 29 ≤ 601024) (hsl : sl + 222 ≤ 7293034) (hk : ∀ (A : Nat → Nat) (t : PS), Bd t → RLx t → FEQ t → ARJ t → PTJ t → iI t 89 = 1 → iI t 12 ≤ 8 → iI t 0 = iI t 74 → iI t 9 = iI t 90 → iI t 20 = iI t 98 → WS k 1894 [(0, .ref q1), (1, .ref (A 0)), (2, .ref (A 179)), (3, .ref (A 517)), (4, .int (Int32.ofInt i))] [] (Wd A dT t) (ce + 29) (sl + 222)) : WS k 1279 [(0, .ref q1), (1, .ref (A 0)), (2, .ref (A 179)), (3, .ref (A 517)), (4, .int (Int32.ofInt i))] [] (Wd A dT s) ce sl := by
  have F : Fm [73] [52, 1460, 398] s s := fm_rf _ _ s
  have b1 := bi_0 I
  have b2 := bi_74 I
  have b3 := bi_9 I
  have b4 := bi_90 I
  have b5 := bi_20 I
  have b6 := bi_98 I
  have b7 := bi_12 I
  have b8 := bi_89 I
  refine z_aload_n X (x := A 0) rfl (List.Mem.tail _ (List.Mem.head _)) (z_aload_n X (x := q1) rfl (List.Mem.head _) (z_load X (x := i) rfl (List.Mem.tail _ (List.Mem.tail _ (List.Mem.tail _ (List.Mem.tail _ (List.Mem.head _))))) (z_const X rfl (z_add X rfl (z_sld X S hL rfl (show 0 ≤ (i + 1) ∧ (i + 1) < (L : Int) by first | exact sx_in hi (by decide) | omega) ?_)))))
  have sr9 : rng (sc xs (i + 1)) := sc_rng
  refine z_aload_n X (x := q1) rfl (List.Mem.head _) (z_load X (x := i) rfl (List.Mem.tail _ (List.Mem.tail _ (List.Mem.tail _ (List.Mem.tail _ (List.Mem.head _))))) (z_const X rfl (z_add X rfl (z_sld X S hL rfl (show 0 ≤ (i + 2) ∧ (i + 2) < (L : Int) by first | exact sx_in hi (by decide) | omega) ?_))))
  have sr10 : rng (sc xs (i + 2)) := sc_rng
  refine z_aload_n X (x := A 517) rfl (List.Mem.tail _ (List.Mem.tail _ (List.Mem.tail _ (List.Mem.head _)))) (z_callL X (rm := rmN 339) (As := [.ref (A 0), .int (Int32.ofInt (sc xs (i + 1))), .int (Int32.ofInt (sc xs (i + 2))), .ref (A 517)]) (st := []) rfl (by decide) rfl (by rw [E.1, E.2.1, E.2.2.1]; exact lw_ill G I (by omega) (by omega)) ⟨by rw [E.2.2.2]; exact (show 8 + 1 ≤ 2048 by decide), by rw [E.2.2.2]; exact (show 8 + (5 + 11) + 146 ≤ 84000 by decide), by rw [E.2.2.2]; exact (show ce + 2 ≤ 601024 by first | exact rmo_1 hce (by decide) | exact rmo_2 hce (by decide) | omega), by rw [E.2.2.2]; exact (show sl + 12 ≤ 7293034 by first | exact rmo_1 hsl (by decide) | exact rmo_2 hsl (by decide) | omega)⟩ (Nat.le_of_ble_eq_true rfl) (fun vv A s11 hA2 hq => ?_) (fun ee A s11 hA2 hq => ?_))
  rotate_left
  · obtain ⟨Is11, Fs11, e12, hv, hrs11, hps11⟩ := hq; cases hv
  obtain ⟨Is11, Fs11, e12, hv, hrs11, hps11⟩ := hq
  cases hv
  rw [← hA2 0 (by decide)]
  rw [← hA2 179 (by decide)]
  rw [← hA2 517 (by decide)]
  have JRLx_s11 : RLx s11 := RLx_fm Fs11 (by decide) jR
  have JFEQ_s11 : FEQ s11 := FEQ_fm Fs11 (by decide) jFEQ
  have JARJ_s11 : ARJ s11 := ARJ_fm Fs11 ⟨by decide +kernel, by decide +kernel, by decide +kernel, by decide +kernel, by decide +kernel, by decide +kernel, by decide +kernel, by decide +kernel⟩ jARJ
  have JPTJ_s11 : PTJ s11 := PTJ_fm Fs11 (by decide +kernel) jPTJ
  have ws11_0 : iI s11 0 = iI s 0 := fm_iq Fs11 rfl
  have ws11_74 : iI s11 74 = iI s 74 := fm_iq Fs11 rfl
  have ws11_9 : iI s11 9 = iI s 9 := fm_iq Fs11 rfl
  have ws11_90 : iI s11 90 = iI s 90 := fm_iq Fs11 rfl
  have ws11_20 : iI s11 20 = iI s 20 := fm_iq Fs11 rfl
  have ws11_98 : iI s11 98 = iI s 98 := fm_iq Fs11 rfl
  have ws11_12 : iI s11 12 = iI s 12 := fm_iq Fs11 rfl
  have ws11_89 : iI s11 89 = iI s 89 := fm_iq Fs11 rfl
  show WS k 1296 [(0, .ref q1), (1, .ref (A 0)), (2, .ref (A 179)), (3, .ref (A 517)), (4, .int (Int32.ofInt i))] [.int (Int32.ofInt e12)] (Wd A dT s11) (ce + 2) (sl + 12)
  refine z_store X (lv' := [(5, .int (Int32.ofInt e12)), (0, .ref q1), (1, .ref (A 0)), (2, .ref (A 179)), (3, .ref (A 517)), (4, .int (Int32.ofInt i))]) rfl (by decide) (fun _ h => h) (z_aload_n X (x := A 179) rfl (List.Mem.tail _ (List.Mem.tail _ (List.Mem.tail _ (List.Mem.head _)))) (z_aload_n X (x := q1) rfl (List.Mem.tail _ (List.Mem.head _)) (z_load X (x := i) rfl (List.Mem.tail _ (List.Mem.tail _ (List.Mem.tail _ (List.Mem.tail _ (List.Mem.tail _ (List.Mem.head _)))))) (z_const X rfl (z_add X rfl (z_sld X S hL rfl (show 0 ≤ (i + 1) ∧ (i + 1) < (L : Int) by first | exact sx_in hi (by decide) | omega) ?_))))))
  have sr13 : rng (sc xs (i + 1)) := sc_rng
  refine z_aload_n X (x := q1) rfl (List.Mem.tail _ (List.Mem.head _)) (z_load X (x := i) rfl (List.Mem.tail _ (List.Mem.tail _ (List.Mem.tail _ (List.Mem.tail _ (List.Mem.tail _ (List.Mem.head _)))))) (z_const X rfl (z_add X rfl (z_sld X S hL rfl (show 0 ≤ (i + 2) ∧ (i + 2) < (L : Int) by first | exact sx_in hi (by decide) | omega) ?_))))
  have sr14 : rng (sc xs (i + 2)) := sc_rng
  refine z_callV X 179 (rm := rmN 274) (As := [.int (Int32.ofInt (sc xs (i + 1))), .int (Int32.ofInt (sc xs (i + 2)))]) (st := []) rfl rfl (by decide) rfl (by rw [E.1, E.2.1, E.2.2.1]; exact k_ill G Is11 (by first | exact ⟨sr13.1, sr13.2⟩ | omega) (by first | exact ⟨sr14.1, sr14.2⟩ | omega)) ⟨by rw [E.2.2.2]; exact (show 7 + 1 ≤ 2048 from oq_4e6106eb), by rw [E.2.2.2]; exact (show 8 + (4 + 11) + 122 ≤ 84000 from oq_ebbf79c1), by rw [E.2.2.2]; exact (show (ce + 2) + 0 ≤ 601024 by omega), by rw [E.2.2.2]; exact (show (sl + 12) + 0 ≤ 7293034 by omega)⟩ (Nat.le_of_ble_eq_true rfl) (fun vv s15 hq => ?_) (fun ee s15 hq => ?_)
  rotate_left
  · obtain ⟨Is15, Fs15, e16, hv, hrs15, hps15⟩ := hq; cases hv
  obtain ⟨Is15, Fs15, e16, hv, hrs15, hps15⟩ := hq
  cases hv
  have JRLx_s15 : RLx s15 := RLx_fm Fs15 (by decide) JRLx_s11
  have JFEQ_s15 : FEQ s15 := FEQ_fm Fs15 (by decide) JFEQ_s11
  have JARJ_s15 : ARJ s15 := ARJ_fm Fs15 ⟨by decide +kernel, by decide +kernel, by decide +kernel, by decide +kernel, by decide +kernel, by decide +kernel, by decide +kernel, by decide +kernel⟩ JARJ_s11
  have JPTJ_s15 : PTJ s15 := PTJ_fm Fs15 (by decide +kernel) JPTJ_s11
  have ws15_0 : iI s15 0 = iI s11 0 := fm_iq Fs15 rfl
  have ws15_74 : iI s15 74 = iI s11 74 := fm_iq Fs15 rfl
  have ws15_9 : iI s15 9 = iI s11 9 := fm_iq Fs15 rfl
  have ws15_90 : iI s15 90 = iI s11 90 := fm_iq Fs15 rfl
  have ws15_20 : iI s15 20 = iI s11 20 := fm_iq Fs15 rfl
  have ws15_98 : iI s15 98 = iI s11 98 := fm_iq Fs15 rfl
  have ws15_12 : iI s15 12 = iI s11 12 := fm_iq Fs15 rfl
  have ws15_89 : iI s15 89 = iI s11 89 := fm_iq Fs15 rfl
  have wos15 : iO s15 = iO s11 := fm_o Fs15 (by decide)
  show WS k 1314 [(5, .int (Int32.ofInt e12)), (0, .ref q1), (1, .ref (A 0)), (2, .ref (A 179)), (3, .ref (A 517)), (4, .int (Int32.ofInt i))] [.int (Int32.ofInt e16)] (Wd A dT s15) (ce + 2) (sl + 12)
  refine z_store X (lv' := [(6, .int (Int32.ofInt e16)), (5, .int (Int32.ofInt e12)), (0, .ref q1), (1, .ref (A 0)), (2, .ref (A 179)), (3, .ref (A 517)), (4, .int (Int32.ofInt i))]) rfl (by decide) (fun _ h => h) (z_goto X (t := 1894) rfl rfl (w_widen (ce' := ce + 29) (sl' := sl + 222) (by first | exact Nat.le_add_right _ _ | exact Nat.add_le_add_left (by decide) _ | omega) (by first | exact Nat.le_add_right _ _ | exact Nat.add_le_add_left (by decide) _ | omega) ?_))
  exact WS_lv (lv := [(0, .ref q1), (1, .ref (A 0)), (2, .ref (A 179)), (3, .ref (A 517)), (4, .int (Int32.ofInt i))]) (List.forall_mem_cons.mpr ⟨(List.Mem.tail _ (List.Mem.tail _ (List.Mem.head _))), (List.forall_mem_cons.mpr ⟨(List.Mem.tail _ (List.Mem.tail _ (List.Mem.tail _ (List.Mem.head _)))), (List.forall_mem_cons.mpr ⟨(List.Mem.tail _ (List.Mem.tail _ (List.Mem.tail _ (List.Mem.tail _ (List.Mem.head _))))), (List.forall_mem_cons.mpr ⟨(List.Mem.tail _ (List.Mem.tail _ (List.Mem.tail _ (List.Mem.tail _ (List.Mem.tail _ (List.Mem.head _)))))), (List.forall_mem_cons.mpr ⟨(List.Mem.tail _ (List.Mem.tail _ (List.Mem.tail _ (List.Mem.tail _ (List.Mem.tail _ (List.Mem.tail _ (List.Mem.head _))))))), (fun q h => absurd h List.not_mem_nil)⟩)⟩)⟩)⟩)⟩) (hk A _ Is15 JRLx_s15 JFEQ_s15 JARJ_s15 JPTJ_s15 (by first | exact oq_f34933ba ws15_89 ws11_89 p1 b8.1 | omega) (by first | exact oq_d7ce4408 ws15_12 ws11_12 p2 | omega) (by first | exact oq_5bcdc35f ws15_74 ws15_0 ws11_74 ws11_0 p3 | omega) (by first | exact oq_5bcdc35f ws15_90 ws15_9 ws11_90 ws11_9 p4 | omega) (by first | exact oq_5bcdc35f ws15_98 ws15_20 ws11_98 ws11_20 p5 | omega))
theorem lc_31 (G : GX l s0 D tys a0 dT) (GR : RS0 s0) (SF : SF0 s0) (GT : TXs0 s0) (GW : TXw0 s0) {k : kx_T} (X : AX k 350 dT) (E : kL k = l ∧ kS0 k = s0 ∧ kD k = D ∧ kR k = room_1) {q1 L : Nat} {xs : Nat → Int32} (S : SX k q1 L xs) (hL : L ≤ 3072) (I : Bd s) (jR : RLx s) (jFEQ : FEQ s) (jARJ : ARJ s) (jPTJ : PTJ s) (p1 : iI s 89 = 1) (p2 : iI s 12 ≤ 8) (p3 : iI s 0 = iI s 74) (p4 : iI s 9 = iI s 90) (p5 : iI s 20 = iI s 98) {i : Int} (hi : 0 ≤ i ∧ i + 6 ≤ (L : Int)) {ce sl : Nat} (hce : ce + 29 ≤ 601024) (hsl : sl + 222 ≤ 7293034) (hk : ∀ (A : Nat → Nat) (t : PS), Bd t → RLx t → FEQ t → ARJ t → PTJ t → iI t 89 = 1 → iI t 12 ≤ 8 → iI t 0 = iI t 74 → iI t 9 = iI t 90 → iI t 20 = iI t 98 → WS k 1894 [(0, .ref q1), (1, .ref (A 0)), (2, .ref (A 179)), (3, .ref (A 517)), (4, .int (Int32.ofInt i))] [] (Wd A dT t) (ce + 29) (sl + 222)) : WS k 1319 [(0, .ref q1), (1, .ref (A 0)), (2, .ref (A 179)), (3, .ref (A 517)), (4, .int (Int32.ofInt i))] [] (Wd A dT s) ce sl := by
  have F : Fm [22, 23, 24, 34, 35, 38, 73, 104, 77, 75, 78, 79, 80, 81, 89] [33, 26, 27, 28, 29, 30, 31, 32, 20, 48, 47, 49, 50, 51, 53, 54, 55, 56, 1460, 161, 230, 202, 204, 205, 206, 207, 208, 209, 210, 211, 212, 213, 214, 215, 216, 217, 218, 219, 220, 221, 222, 223, 224, 225, 226, 227, 203, 395, 396, 397, 245, 246, 247, 248, 249, 250, 251, 252, 253, 254, 255, 256, 257, 258, 259, 260, 261, 262, 263, 264, 265, 266, 267, 268, 269, 270, 271, 272, 273, 274, 275, 276, 277, 278, 279, 280, 281, 282, 283, 284, 285, 286, 287, 288, 289, 290, 291, 292, 293, 294, 295, 296, 297, 298, 299, 300, 301, 302, 303, 304, 305, 306, 307, 308, 309, 310, 311, 312, 313, 314, 315, 316, 317, 318, 319, 320, 321, 322, 323, 324, 325, 326, 327, 328, 329, 330, 331, 332, 333, 334, 335, 336, 337, 338, 339, 340, 341, 342, 343, 344, 345, 346, 347, 348, 349, 350, 351, 352, 353, 354, 355, 356, 357, 358, 359, 360, 361, 362, 363, 364, 365, 366, 367, 368, 369, 370, 371, 372, 373, 374, 375, 376, 377, 378, 379, 380, 381, 382, 383, 384, 385, 386, 387, 388, 389, 390, 391, 392, 393, 394] s s := fm_rf _ _ s
  have b1 := bi_0 I
  have b2 := bi_74 I
  have b3 := bi_9 I
  have b4 := bi_90 I
  have b5 := bi_20 I
  have b6 := bi_98 I
  have b7 := bi_12 I
  have b8 := bi_89 I
  refine z_aload_n X (x := A 0) rfl (List.Mem.tail _ (List.Mem.head _)) (z_aload_n X (x := q1) rfl (List.Mem.head _) (z_load X (x := i) rfl (List.Mem.tail _ (List.Mem.tail _ (List.Mem.tail _ (List.Mem.tail _ (List.Mem.head _))))) (z_const X rfl (z_add X rfl (z_sld X S hL rfl (show 0 ≤ (i + 1) ∧ (i + 1) < (L : Int) by first | exact sx_in hi (by decide) | omega) ?_)))))
  have sr9 : rng (sc xs (i + 1)) := sc_rng
  refine z_aload_n X (x := q1) rfl (List.Mem.head _) (z_load X (x := i) rfl (List.Mem.tail _ (List.Mem.tail _ (List.Mem.tail _ (List.Mem.tail _ (List.Mem.head _))))) (z_const X rfl (z_add X rfl (z_sld X S hL rfl (show 0 ≤ (i + 2) ∧ (i + 2) < (L : Int) by first | exact sx_in hi (by decide) | omega) ?_))))
  have sr10 : rng (sc xs (i + 2)) := sc_rng
  refine z_aload_n X (x := q1) rfl (List.Mem.head _) (z_load X (x := i) rfl (List.Mem.tail _ (List.Mem.tail _ (List.Mem.tail _ (List.Mem.tail _ (List.Mem.head _))))) (z_const X rfl (z_add X rfl (z_sld X S hL rfl (show 0 ≤ (i + 3) ∧ (i + 3) < (L : Int) by first | exact sx_in hi (by decide) | omega) ?_))))
  have sr11 : rng (sc xs (i + 3)) := sc_rng
  refine z_aload_n X (x := A 517) rfl (List.Mem.tail _ (List.Mem.tail _ (List.Mem.tail _ (List.Mem.head _)))) (z_callL X (rm := rmN 340) (As := [.ref (A 0), .int (Int32.ofInt (sc xs (i + 1))), .int (Int32.ofInt (sc xs (i + 2))), .int (Int32.ofInt (sc xs (i + 3))), .ref (A 517)]) (st := []) rfl (by decide) rfl (by rw [E.1, E.2.1, E.2.2.1]; exact lw_rota G I (by omega) (by omega) (by omega) (by omega)) ⟨by rw [E.2.2.2]; exact (show 13 + 1 ≤ 2048 by decide), by rw [E.2.2.2]; exact (show 8 + (6 + 11) + 274 ≤ 84000 by decide), by rw [E.2.2.2]; exact (show ce + 3 ≤ 601024 by first | exact rmo_1 hce (by decide) | exact rmo_2 hce (by decide) | omega), by rw [E.2.2.2]; exact (show sl + 18 ≤ 7293034 by first | exact rmo_1 hsl (by decide) | exact rmo_2 hsl (by decide) | omega)⟩ (Nat.le_of_ble_eq_true rfl) (fun vv A s12 hA2 hq => ?_) (fun ee A s12 hA2 hq => ?_))
  rotate_left
  · obtain ⟨Is12, Fs12, e13, hv, hrs12, hps12⟩ := hq; cases hv
  obtain ⟨Is12, Fs12, e13, hv, hrs12, hps12⟩ := hq
  cases hv
  rw [← hA2 0 (by decide)]
  rw [← hA2 179 (by decide)]
  rw [← hA2 517 (by decide)]
  have JRLx_s12 : RLx s12 := RLx_fm Fs12 (by decide) jR
  have JFEQ_s12 : FEQ s12 := FEQ_fm Fs12 (by decide) jFEQ
  have JARJ_s12 : ARJ s12 := ARJ_fm Fs12 ⟨by decide +kernel, by decide +kernel, by decide +kernel, by decide +kernel, by decide +kernel, by decide +kernel, by decide +kernel, by decide +kernel⟩ jARJ
  have JPTJ_s12 : PTJ s12 := PTJ_fm Fs12 (by decide +kernel) jPTJ
  have ws12_0 : iI s12 0 = iI s 0 := fm_iq Fs12 rfl
  have ws12_74 : iI s12 74 = iI s 74 := fm_iq Fs12 rfl
  have ws12_9 : iI s12 9 = iI s 9 := fm_iq Fs12 rfl
  have ws12_90 : iI s12 90 = iI s 90 := fm_iq Fs12 rfl
  have ws12_20 : iI s12 20 = iI s 20 := fm_iq Fs12 rfl
  have ws12_98 : iI s12 98 = iI s 98 := fm_iq Fs12 rfl
  have ws12_12 : iI s12 12 = iI s 12 := fm_iq Fs12 rfl
  have ws12_89 : iI s12 89 = iI s 89 := fm_iq Fs12 rfl
  show WS k 1342 [(0, .ref q1), (1, .ref (A 0)), (2, .ref (A 179)), (3, .ref (A 517)), (4, .int (Int32.ofInt i))] [.int (Int32.ofInt e13)] (Wd A dT s12) (ce + 3) (sl + 18)
  refine z_store X (lv' := [(5, .int (Int32.ofInt e13)), (0, .ref q1), (1, .ref (A 0)), (2, .ref (A 179)), (3, .ref (A 517)), (4, .int (Int32.ofInt i))]) rfl (by decide) (fun _ h => h) (z_aload_n X (x := A 179) rfl (List.Mem.tail _ (List.Mem.tail _ (List.Mem.tail _ (List.Mem.head _)))) (z_aload_n X (x := q1) rfl (List.Mem.tail _ (List.Mem.head _)) (z_load X (x := i) rfl (List.Mem.tail _ (List.Mem.tail _ (List.Mem.tail _ (List.Mem.tail _ (List.Mem.tail _ (List.Mem.head _)))))) (z_const X rfl (z_add X rfl (z_sld X S hL rfl (show 0 ≤ (i + 1) ∧ (i + 1) < (L : Int) by first | exact sx_in hi (by decide) | omega) ?_))))))
  have sr14 : rng (sc xs (i + 1)) := sc_rng
  refine z_aload_n X (x := q1) rfl (List.Mem.tail _ (List.Mem.head _)) (z_load X (x := i) rfl (List.Mem.tail _ (List.Mem.tail _ (List.Mem.tail _ (List.Mem.tail _ (List.Mem.tail _ (List.Mem.head _)))))) (z_const X rfl (z_add X rfl (z_sld X S hL rfl (show 0 ≤ (i + 2) ∧ (i + 2) < (L : Int) by first | exact sx_in hi (by decide) | omega) ?_))))
  have sr15 : rng (sc xs (i + 2)) := sc_rng
  refine z_aload_n X (x := q1) rfl (List.Mem.tail _ (List.Mem.head _)) (z_load X (x := i) rfl (List.Mem.tail _ (List.Mem.tail _ (List.Mem.tail _ (List.Mem.tail _ (List.Mem.tail _ (List.Mem.head _)))))) (z_const X rfl (z_add X rfl (z_sld X S hL rfl (show 0 ≤ (i + 3) ∧ (i + 3) < (L : Int) by first | exact sx_in hi (by decide) | omega) ?_))))
  have sr16 : rng (sc xs (i + 3)) := sc_rng
  refine z_callV X 179 (rm := rmN 276) (As := [.int (Int32.ofInt (sc xs (i + 1))), .int (Int32.ofInt (sc xs (i + 2))), .int (Int32.ofInt (sc xs (i + 3)))]) (st := []) rfl rfl (by decide) rfl (by rw [E.1, E.2.1, E.2.2.1]; exact k_rota G Is12 JRLx_s12 (by first | exact ⟨sr14.1, sr14.2⟩ | omega) (by first | exact ⟨sr15.1, sr15.2⟩ | omega) (by first | exact ⟨sr16.1, sr16.2⟩ | omega) (by first | exact oq_b44a1c7f ws12_89 p1 b8.1 | omega)) ⟨by rw [E.2.2.2]; exact (show 64 + 1 ≤ 2048 from oq_5cbe2cb6), by rw [E.2.2.2]; exact (show 8 + (4 + 11) + 2742 ≤ 84000 from oq_31d93303), by rw [E.2.2.2]; exact (show (ce + 3) + 3 ≤ 601024 by omega), by rw [E.2.2.2]; exact (show (sl + 18) + 24 ≤ 7293034 by omega)⟩ (Nat.le_of_ble_eq_true rfl) (fun vv s17 hq => ?_) (fun ee s17 hq => ?_)
  rotate_left
  · obtain ⟨Is17, Fs17, JRLx_s17, e18, hv, hrs17, hps17⟩ := hq; cases hv
  obtain ⟨Is17, Fs17, JRLx_s17, e18, hv, hrs17, hps17⟩ := hq
  cases hv
  have JRLx_s17 : RLx s17 := RLx_fm Fs17 (by decide) JRLx_s12
  have JFEQ_s17 : FEQ s17 := FEQ_fm Fs17 (by decide) JFEQ_s12
  have JARJ_s17 : ARJ s17 := ARJ_fm Fs17 ⟨by decide +kernel, by decide +kernel, by decide +kernel, by decide +kernel, by decide +kernel, by decide +kernel, by decide +kernel, by decide +kernel⟩ JARJ_s12
  have JPTJ_s17 : PTJ s17 := PTJ_fm Fs17 (by decide +kernel) JPTJ_s12
  have ws17_0 : iI s17 0 = iI s12 0 := fm_iq Fs17 rfl
  have ws17_74 : iI s17 74 = iI s12 74 := fm_iq Fs17 rfl
  have ws17_9 : iI s17 9 = iI s12 9 := fm_iq Fs17 rfl
  have ws17_90 : iI s17 90 = iI s12 90 := fm_iq Fs17 rfl
  have ws17_20 : iI s17 20 = iI s12 20 := fm_iq Fs17 rfl
  have ws17_98 : iI s17 98 = iI s12 98 := fm_iq Fs17 rfl
  have ws17_12 : iI s17 12 = iI s12 12 := fm_iq Fs17 rfl
  have b19 := bi_89 Is17
  have wos17 : iO s17 = iO s12 := fm_o Fs17 (by decide)
  show WS k 1366 [(5, .int (Int32.ofInt e13)), (0, .ref q1), (1, .ref (A 0)), (2, .ref (A 179)), (3, .ref (A 517)), (4, .int (Int32.ofInt i))] [.int (Int32.ofInt e18)] (Wd A dT s17) ((ce + 3) + 3) ((sl + 18) + 24)
  refine z_store X (lv' := [(6, .int (Int32.ofInt e18)), (5, .int (Int32.ofInt e13)), (0, .ref q1), (1, .ref (A 0)), (2, .ref (A 179)), (3, .ref (A 517)), (4, .int (Int32.ofInt i))]) rfl (by decide) (fun _ h => h) (z_goto X (t := 1894) rfl rfl (w_widen (ce' := ce + 29) (sl' := sl + 222) (by first | exact Nat.le_add_right _ _ | exact Nat.add_le_add_left (by decide) _ | omega) (by first | exact Nat.le_add_right _ _ | exact Nat.add_le_add_left (by decide) _ | omega) ?_))
  exact WS_lv (lv := [(0, .ref q1), (1, .ref (A 0)), (2, .ref (A 179)), (3, .ref (A 517)), (4, .int (Int32.ofInt i))]) (List.forall_mem_cons.mpr ⟨(List.Mem.tail _ (List.Mem.tail _ (List.Mem.head _))), (List.forall_mem_cons.mpr ⟨(List.Mem.tail _ (List.Mem.tail _ (List.Mem.tail _ (List.Mem.head _)))), (List.forall_mem_cons.mpr ⟨(List.Mem.tail _ (List.Mem.tail _ (List.Mem.tail _ (List.Mem.tail _ (List.Mem.head _))))), (List.forall_mem_cons.mpr ⟨(List.Mem.tail _ (List.Mem.tail _ (List.Mem.tail _ (List.Mem.tail _ (List.Mem.tail _ (List.Mem.head _)))))), (List.forall_mem_cons.mpr ⟨(List.Mem.tail _ (List.Mem.tail _ (List.Mem.tail _ (List.Mem.tail _ (List.Mem.tail _ (List.Mem.tail _ (List.Mem.head _))))))), (fun q h => absurd h List.not_mem_nil)⟩)⟩)⟩)⟩)⟩) (hk A _ Is17 JRLx_s17 JFEQ_s17 JARJ_s17 JPTJ_s17 (by first | exact hps17 | omega) (by first | exact oq_d7ce4408 ws17_12 ws12_12 p2 | omega) (by first | exact oq_5bcdc35f ws17_74 ws17_0 ws12_74 ws12_0 p3 | omega) (by first | exact oq_5bcdc35f ws17_90 ws17_9 ws12_90 ws12_9 p4 | omega) (by first | exact oq_5bcdc35f ws17_98 ws17_20 ws12_98 ws12_20 p5 | omega))
theorem lc_32 (G : GX l s0 D tys a0 dT) (GR : RS0 s0) (SF : SF0 s0) (GT : TXs0 s0) (GW : TXw0 s0) {k : kx_T} (X : AX k 350 dT) (E : kL k = l ∧ kS0 k = s0 ∧ kD k = D ∧ kR k = room_1) {q1 L : Nat} {xs : Nat → Int32} (S : SX k q1 L xs) (hL : L ≤ 3072) (I : Bd s) (jR : RLx s) (jFEQ : FEQ s) (jARJ : ARJ s) (jPTJ : PTJ s) (p1 : iI s 89 = 1) (p2 : iI s 12 ≤ 8) (p3 : iI s 0 = iI s 74) (p4 : iI s 9 = iI s 90) (p5 : iI s 20 = iI s 98) {i : Int} (hi : 0 ≤ i ∧ i + 6 ≤ (L : Int)) {ce sl : Nat} (hce : ce + 29 ≤ 601024) (hsl : sl + 222 ≤ 7293034) (hk : ∀ (A : Nat → Nat) (t : PS), Bd t → RLx t → FEQ t → ARJ t → PTJ t → iI t 89 = 1 → iI t 12 ≤ 8 → iI t 0 = iI t 74 → iI t 9 = iI t 90 → iI t 20 = iI t 98 → WS k 1894 [(0, .ref q1), (1, .ref (A 0)), (2, .ref (A 179)), (3, .ref (A 517)), (4, .int (Int32.ofInt i))] [] (Wd A dT t) (ce + 29) (sl + 222)) : WS k 1371 [(0, .ref q1), (1, .ref (A 0)), (2, .ref (A 179)), (3, .ref (A 517)), (4, .int (Int32.ofInt i))] [] (Wd A dT s) ce sl := by
  have F : Fm [22, 23, 24, 34, 35, 38, 73, 104, 77, 75, 78, 79, 80, 81, 89] [33, 26, 27, 28, 29, 30, 31, 32, 20, 48, 47, 49, 50, 51, 53, 54, 55, 56, 1460, 161, 230, 202, 204, 205, 206, 207, 208, 209, 210, 211, 212, 213, 214, 215, 216, 217, 218, 219, 220, 221, 222, 223, 224, 225, 226, 227, 203, 395, 396, 397, 245, 246, 247, 248, 249, 250, 251, 252, 253, 254, 255, 256, 257, 258, 259, 260, 261, 262, 263, 264, 265, 266, 267, 268, 269, 270, 271, 272, 273, 274, 275, 276, 277, 278, 279, 280, 281, 282, 283, 284, 285, 286, 287, 288, 289, 290, 291, 292, 293, 294, 295, 296, 297, 298, 299, 300, 301, 302, 303, 304, 305, 306, 307, 308, 309, 310, 311, 312, 313, 314, 315, 316, 317, 318, 319, 320, 321, 322, 323, 324, 325, 326, 327, 328, 329, 330, 331, 332, 333, 334, 335, 336, 337, 338, 339, 340, 341, 342, 343, 344, 345, 346, 347, 348, 349, 350, 351, 352, 353, 354, 355, 356, 357, 358, 359, 360, 361, 362, 363, 364, 365, 366, 367, 368, 369, 370, 371, 372, 373, 374, 375, 376, 377, 378, 379, 380, 381, 382, 383, 384, 385, 386, 387, 388, 389, 390, 391, 392, 393, 394] s s := fm_rf _ _ s
  have b1 := bi_0 I
  have b2 := bi_74 I
  have b3 := bi_9 I
  have b4 := bi_90 I
  have b5 := bi_20 I
  have b6 := bi_98 I
  have b7 := bi_12 I
  have b8 := bi_89 I
  refine z_aload_n X (x := A 0) rfl (List.Mem.tail _ (List.Mem.head _)) (z_aload_n X (x := q1) rfl (List.Mem.head _) (z_load X (x := i) rfl (List.Mem.tail _ (List.Mem.tail _ (List.Mem.tail _ (List.Mem.tail _ (List.Mem.head _))))) (z_const X rfl (z_add X rfl (z_sld X S hL rfl (show 0 ≤ (i + 1) ∧ (i + 1) < (L : Int) by first | exact sx_in hi (by decide) | omega) ?_)))))
  have sr9 : rng (sc xs (i + 1)) := sc_rng
  refine z_aload_n X (x := q1) rfl (List.Mem.head _) (z_load X (x := i) rfl (List.Mem.tail _ (List.Mem.tail _ (List.Mem.tail _ (List.Mem.tail _ (List.Mem.head _))))) (z_const X rfl (z_add X rfl (z_sld X S hL rfl (show 0 ≤ (i + 2) ∧ (i + 2) < (L : Int) by first | exact sx_in hi (by decide) | omega) ?_))))
  have sr10 : rng (sc xs (i + 2)) := sc_rng
  refine z_aload_n X (x := A 517) rfl (List.Mem.tail _ (List.Mem.tail _ (List.Mem.tail _ (List.Mem.head _)))) (z_callL X (rm := rmN 341) (As := [.ref (A 0), .int (Int32.ofInt (sc xs (i + 1))), .int (Int32.ofInt (sc xs (i + 2))), .ref (A 517)]) (st := []) rfl (by decide) rfl (by rw [E.1, E.2.1, E.2.2.1]; exact lw_lacks G I (by omega) (by omega) (by omega)) ⟨by rw [E.2.2.2]; exact (show 13 + 1 ≤ 2048 by decide), by rw [E.2.2.2]; exact (show 8 + (5 + 11) + 273 ≤ 84000 by decide), by rw [E.2.2.2]; exact (show ce + 2 ≤ 601024 by first | exact rmo_1 hce (by decide) | exact rmo_2 hce (by decide) | omega), by rw [E.2.2.2]; exact (show sl + 12 ≤ 7293034 by first | exact rmo_1 hsl (by decide) | exact rmo_2 hsl (by decide) | omega)⟩ (Nat.le_of_ble_eq_true rfl) (fun vv A s11 hA2 hq => ?_) (fun ee A s11 hA2 hq => ?_))
  rotate_left
  · obtain ⟨Is11, Fs11, e12, hv, hrs11, hps11⟩ := hq; cases hv
  obtain ⟨Is11, Fs11, e12, hv, hrs11, hps11⟩ := hq
  cases hv
  rw [← hA2 0 (by decide)]
  rw [← hA2 179 (by decide)]
  rw [← hA2 517 (by decide)]
  have JRLx_s11 : RLx s11 := RLx_fm Fs11 (by decide) jR
  have JFEQ_s11 : FEQ s11 := FEQ_fm Fs11 (by decide) jFEQ
  have JARJ_s11 : ARJ s11 := ARJ_fm Fs11 ⟨by decide +kernel, by decide +kernel, by decide +kernel, by decide +kernel, by decide +kernel, by decide +kernel, by decide +kernel, by decide +kernel⟩ jARJ
  have JPTJ_s11 : PTJ s11 := PTJ_fm Fs11 (by decide +kernel) jPTJ
  have ws11_0 : iI s11 0 = iI s 0 := fm_iq Fs11 rfl
  have ws11_74 : iI s11 74 = iI s 74 := fm_iq Fs11 rfl
  have ws11_9 : iI s11 9 = iI s 9 := fm_iq Fs11 rfl
  have ws11_90 : iI s11 90 = iI s 90 := fm_iq Fs11 rfl
  have ws11_20 : iI s11 20 = iI s 20 := fm_iq Fs11 rfl
  have ws11_98 : iI s11 98 = iI s 98 := fm_iq Fs11 rfl
  have ws11_12 : iI s11 12 = iI s 12 := fm_iq Fs11 rfl
  have ws11_89 : iI s11 89 = iI s 89 := fm_iq Fs11 rfl
  show WS k 1388 [(0, .ref q1), (1, .ref (A 0)), (2, .ref (A 179)), (3, .ref (A 517)), (4, .int (Int32.ofInt i))] [.int (Int32.ofInt e12)] (Wd A dT s11) (ce + 2) (sl + 12)
  refine z_store X (lv' := [(5, .int (Int32.ofInt e12)), (0, .ref q1), (1, .ref (A 0)), (2, .ref (A 179)), (3, .ref (A 517)), (4, .int (Int32.ofInt i))]) rfl (by decide) (fun _ h => h) (z_aload_n X (x := A 179) rfl (List.Mem.tail _ (List.Mem.tail _ (List.Mem.tail _ (List.Mem.head _)))) (z_aload_n X (x := q1) rfl (List.Mem.tail _ (List.Mem.head _)) (z_load X (x := i) rfl (List.Mem.tail _ (List.Mem.tail _ (List.Mem.tail _ (List.Mem.tail _ (List.Mem.tail _ (List.Mem.head _)))))) (z_const X rfl (z_add X rfl (z_sld X S hL rfl (show 0 ≤ (i + 1) ∧ (i + 1) < (L : Int) by first | exact sx_in hi (by decide) | omega) ?_))))))
  have sr13 : rng (sc xs (i + 1)) := sc_rng
  refine z_aload_n X (x := q1) rfl (List.Mem.tail _ (List.Mem.head _)) (z_load X (x := i) rfl (List.Mem.tail _ (List.Mem.tail _ (List.Mem.tail _ (List.Mem.tail _ (List.Mem.tail _ (List.Mem.head _)))))) (z_const X rfl (z_add X rfl (z_sld X S hL rfl (show 0 ≤ (i + 2) ∧ (i + 2) < (L : Int) by first | exact sx_in hi (by decide) | omega) ?_))))
  have sr14 : rng (sc xs (i + 2)) := sc_rng
  refine z_callV X 179 (rm := rmN 277) (As := [.int (Int32.ofInt (sc xs (i + 1))), .int (Int32.ofInt (sc xs (i + 2)))]) (st := []) rfl rfl (by decide) rfl (by rw [E.1, E.2.1, E.2.2.1]; exact k_lacks G Is11 JRLx_s11 (by first | exact ⟨sr13.1, sr13.2⟩ | omega) (by first | exact ⟨sr14.1, sr14.2⟩ | omega) (by first | exact oq_b44a1c7f ws11_89 p1 b8.1 | omega)) ⟨by rw [E.2.2.2]; exact (show 64 + 1 ≤ 2048 from oq_5cbe2cb6), by rw [E.2.2.2]; exact (show 8 + (3 + 11) + 2742 ≤ 84000 from oq_151ba25b), by rw [E.2.2.2]; exact (show (ce + 2) + 3 ≤ 601024 by omega), by rw [E.2.2.2]; exact (show (sl + 12) + 24 ≤ 7293034 by omega)⟩ (Nat.le_of_ble_eq_true rfl) (fun vv s15 hq => ?_) (fun ee s15 hq => ?_)
  rotate_left
  · obtain ⟨Is15, Fs15, JRLx_s15, e16, hv, hrs15, hps15⟩ := hq; cases hv
  obtain ⟨Is15, Fs15, JRLx_s15, e16, hv, hrs15, hps15⟩ := hq
  cases hv
  have JRLx_s15 : RLx s15 := RLx_fm Fs15 (by decide) JRLx_s11
  have JFEQ_s15 : FEQ s15 := FEQ_fm Fs15 (by decide) JFEQ_s11
  have JARJ_s15 : ARJ s15 := ARJ_fm Fs15 ⟨by decide +kernel, by decide +kernel, by decide +kernel, by decide +kernel, by decide +kernel, by decide +kernel, by decide +kernel, by decide +kernel⟩ JARJ_s11
  have JPTJ_s15 : PTJ s15 := PTJ_fm Fs15 (by decide +kernel) JPTJ_s11
  have ws15_0 : iI s15 0 = iI s11 0 := fm_iq Fs15 rfl
  have ws15_74 : iI s15 74 = iI s11 74 := fm_iq Fs15 rfl
  have ws15_9 : iI s15 9 = iI s11 9 := fm_iq Fs15 rfl
  have ws15_90 : iI s15 90 = iI s11 90 := fm_iq Fs15 rfl
  have ws15_20 : iI s15 20 = iI s11 20 := fm_iq Fs15 rfl
  have ws15_98 : iI s15 98 = iI s11 98 := fm_iq Fs15 rfl
  have ws15_12 : iI s15 12 = iI s11 12 := fm_iq Fs15 rfl
  have b17 := bi_89 Is15
  have wos15 : iO s15 = iO s11 := fm_o Fs15 (by decide)
  show WS k 1406 [(5, .int (Int32.ofInt e12)), (0, .ref q1), (1, .ref (A 0)), (2, .ref (A 179)), (3, .ref (A 517)), (4, .int (Int32.ofInt i))] [.int (Int32.ofInt e16)] (Wd A dT s15) ((ce + 2) + 3) ((sl + 12) + 24)
  refine z_store X (lv' := [(6, .int (Int32.ofInt e16)), (5, .int (Int32.ofInt e12)), (0, .ref q1), (1, .ref (A 0)), (2, .ref (A 179)), (3, .ref (A 517)), (4, .int (Int32.ofInt i))]) rfl (by decide) (fun _ h => h) (z_goto X (t := 1894) rfl rfl (w_widen (ce' := ce + 29) (sl' := sl + 222) (by first | exact Nat.le_add_right _ _ | exact Nat.add_le_add_left (by decide) _ | omega) (by first | exact Nat.le_add_right _ _ | exact Nat.add_le_add_left (by decide) _ | omega) ?_))
  exact WS_lv (lv := [(0, .ref q1), (1, .ref (A 0)), (2, .ref (A 179)), (3, .ref (A 517)), (4, .int (Int32.ofInt i))]) (List.forall_mem_cons.mpr ⟨(List.Mem.tail _ (List.Mem.tail _ (List.Mem.head _))), (List.forall_mem_cons.mpr ⟨(List.Mem.tail _ (List.Mem.tail _ (List.Mem.tail _ (List.Mem.head _)))), (List.forall_mem_cons.mpr ⟨(List.Mem.tail _ (List.Mem.tail _ (List.Mem.tail _ (List.Mem.tail _ (List.Mem.head _))))), (List.forall_mem_cons.mpr ⟨(List.Mem.tail _ (List.Mem.tail _ (List.Mem.tail _ (List.Mem.tail _ (List.Mem.tail _ (List.Mem.head _)))))), (List.forall_mem_cons.mpr ⟨(List.Mem.tail _ (List.Mem.tail _ (List.Mem.tail _ (List.Mem.tail _ (List.Mem.tail _ (List.Mem.tail _ (List.Mem.head _))))))), (fun q h => absurd h List.not_mem_nil)⟩)⟩)⟩)⟩)⟩) (hk A _ Is15 JRLx_s15 JFEQ_s15 JARJ_s15 JPTJ_s15 (by first | exact hps15 | omega) (by first | exact oq_d7ce4408 ws15_12 ws11_12 p2 | omega) (by first | exact oq_5bcdc35f ws15_74 ws15_0 ws11_74 ws11_0 p3 | omega) (by first | exact oq_5bcdc35f ws15_90 ws15_9 ws11_90 ws11_9 p4 | omega) (by first | exact oq_5bcdc35f ws15_98 ws15_20 ws11_98 ws11_20 p5 | omega))
theorem lc_33 (G : GX l s0 D tys a0 dT) (GR : RS0 s0) (SF : SF0 s0) (GT : TXs0 s0) (GW : TXw0 s0) {k : kx_T} (X : AX k 350 dT) (E : kL k = l ∧ kS0 k = s0 ∧ kD k = D ∧ kR k = room_1) {q1 L : Nat} {xs : Nat → Int32} (S : SX k q1 L xs) (hL : L ≤ 3072) (I : Bd s) (jR : RLx s) (jFEQ : FEQ s) (jARJ : ARJ s) (jPTJ : PTJ s) (p1 : iI s 89 = 1) (p2 : iI s 12 ≤ 8) (p3 : iI s 0 = iI s 74) (p4 : iI s 9 = iI s 90) (p5 : iI s 20 = iI s 98) {i : Int} (hi : 0 ≤ i ∧ i + 6 ≤ (L : Int)) {ce sl : Nat} (hce : ce + 29 ≤ 601024) (hsl : sl + 222 ≤ 7293034) (hk : ∀ (A : Nat → Nat) (t : PS), Bd t → RLx t → FEQ t → ARJ t → PTJ t → iI t 89 = 1 → iI t 12 ≤ 8 → iI t 0 = iI t 74 → iI t 9 = iI t 90 → iI t 20 = iI t 98 → WS k 1894 [(0, .ref q1), (1, .ref (A 0)), (2, .ref (A 179)), (3, .ref (A 517)), (4, .int (Int32.ofInt i))] [] (Wd A dT t) (ce + 29) (sl + 222)) : WS k 1411 [(0, .ref q1), (1, .ref (A 0)), (2, .ref (A 179)), (3, .ref (A 517)), (4, .int (Int32.ofInt i))] [] (Wd A dT s) ce sl := by
  have F : Fm [22, 23, 24, 34, 35, 38, 73, 104, 77, 75, 78, 79, 80, 81, 89] [33, 26, 27, 28, 29, 30, 31, 32, 20, 48, 47, 49, 50, 51, 53, 54, 55, 56, 1460, 161, 230, 202, 204, 205, 206, 207, 208, 209, 210, 211, 212, 213, 214, 215, 216, 217, 218, 219, 220, 221, 222, 223, 224, 225, 226, 227, 203, 395, 396, 397, 245, 246, 247, 248, 249, 250, 251, 252, 253, 254, 255, 256, 257, 258, 259, 260, 261, 262, 263, 264, 265, 266, 267, 268, 269, 270, 271, 272, 273, 274, 275, 276, 277, 278, 279, 280, 281, 282, 283, 284, 285, 286, 287, 288, 289, 290, 291, 292, 293, 294, 295, 296, 297, 298, 299, 300, 301, 302, 303, 304, 305, 306, 307, 308, 309, 310, 311, 312, 313, 314, 315, 316, 317, 318, 319, 320, 321, 322, 323, 324, 325, 326, 327, 328, 329, 330, 331, 332, 333, 334, 335, 336, 337, 338, 339, 340, 341, 342, 343, 344, 345, 346, 347, 348, 349, 350, 351, 352, 353, 354, 355, 356, 357, 358, 359, 360, 361, 362, 363, 364, 365, 366, 367, 368, 369, 370, 371, 372, 373, 374, 375, 376, 377, 378, 379, 380, 381, 382, 383, 384, 385, 386, 387, 388, 389, 390, 391, 392, 393, 394] s s := fm_rf _ _ s
  have b1 := bi_0 I
  have b2 := bi_74 I
  have b3 := bi_9 I
  have b4 := bi_90 I
  have b5 := bi_20 I
  have b6 := bi_98 I
  have b7 := bi_12 I
  have b8 := bi_89 I
  refine z_aload_n X (x := A 0) rfl (List.Mem.tail _ (List.Mem.head _)) (z_aload_n X (x := q1) rfl (List.Mem.head _) (z_load X (x := i) rfl (List.Mem.tail _ (List.Mem.tail _ (List.Mem.tail _ (List.Mem.tail _ (List.Mem.head _))))) (z_const X rfl (z_add X rfl (z_sld X S hL rfl (show 0 ≤ (i + 1) ∧ (i + 1) < (L : Int) by first | exact sx_in hi (by decide) | omega) ?_)))))
  have sr9 : rng (sc xs (i + 1)) := sc_rng
  refine z_aload_n X (x := A 517) rfl (List.Mem.tail _ (List.Mem.tail _ (List.Mem.tail _ (List.Mem.head _)))) (z_callL X (rm := rmN 342) (As := [.ref (A 0), .int (Int32.ofInt (sc xs (i + 1))), .ref (A 517)]) (st := []) rfl (by decide) rfl (by rw [E.1, E.2.1, E.2.2.1]; exact lw_enough G I (by omega) (by omega)) ⟨by rw [E.2.2.2]; exact (show 13 + 1 ≤ 2048 by decide), by rw [E.2.2.2]; exact (show 8 + (4 + 11) + 273 ≤ 84000 by decide), by rw [E.2.2.2]; exact (show ce + 1 ≤ 601024 by first | exact rmo_1 hce (by decide) | exact rmo_2 hce (by decide) | omega), by rw [E.2.2.2]; exact (show sl + 6 ≤ 7293034 by first | exact rmo_1 hsl (by decide) | exact rmo_2 hsl (by decide) | omega)⟩ (Nat.le_of_ble_eq_true rfl) (fun vv A s10 hA2 hq => ?_) (fun ee A s10 hA2 hq => ?_))
  rotate_left
  · obtain ⟨Is10, Fs10, e11, hv, hrs10, hps10⟩ := hq; cases hv
  obtain ⟨Is10, Fs10, e11, hv, hrs10, hps10⟩ := hq
  cases hv
  rw [← hA2 0 (by decide)]
  rw [← hA2 179 (by decide)]
  rw [← hA2 517 (by decide)]
  have JRLx_s10 : RLx s10 := RLx_fm Fs10 (by decide) jR
  have JFEQ_s10 : FEQ s10 := FEQ_fm Fs10 (by decide) jFEQ
  have JARJ_s10 : ARJ s10 := ARJ_fm Fs10 ⟨by decide +kernel, by decide +kernel, by decide +kernel, by decide +kernel, by decide +kernel, by decide +kernel, by decide +kernel, by decide +kernel⟩ jARJ
  have JPTJ_s10 : PTJ s10 := PTJ_fm Fs10 (by decide +kernel) jPTJ
  have ws10_0 : iI s10 0 = iI s 0 := fm_iq Fs10 rfl
  have ws10_74 : iI s10 74 = iI s 74 := fm_iq Fs10 rfl
  have ws10_9 : iI s10 9 = iI s 9 := fm_iq Fs10 rfl
  have ws10_90 : iI s10 90 = iI s 90 := fm_iq Fs10 rfl
  have ws10_20 : iI s10 20 = iI s 20 := fm_iq Fs10 rfl
  have ws10_98 : iI s10 98 = iI s 98 := fm_iq Fs10 rfl
  have ws10_12 : iI s10 12 = iI s 12 := fm_iq Fs10 rfl
  have ws10_89 : iI s10 89 = iI s 89 := fm_iq Fs10 rfl
  show WS k 1422 [(0, .ref q1), (1, .ref (A 0)), (2, .ref (A 179)), (3, .ref (A 517)), (4, .int (Int32.ofInt i))] [.int (Int32.ofInt e11)] (Wd A dT s10) (ce + 1) (sl + 6)
  refine z_store X (lv' := [(5, .int (Int32.ofInt e11)), (0, .ref q1), (1, .ref (A 0)), (2, .ref (A 179)), (3, .ref (A 517)), (4, .int (Int32.ofInt i))]) rfl (by decide) (fun _ h => h) (z_aload_n X (x := A 179) rfl (List.Mem.tail _ (List.Mem.tail _ (List.Mem.tail _ (List.Mem.head _)))) (z_aload_n X (x := q1) rfl (List.Mem.tail _ (List.Mem.head _)) (z_load X (x := i) rfl (List.Mem.tail _ (List.Mem.tail _ (List.Mem.tail _ (List.Mem.tail _ (List.Mem.tail _ (List.Mem.head _)))))) (z_const X rfl (z_add X rfl (z_sld X S hL rfl (show 0 ≤ (i + 1) ∧ (i + 1) < (L : Int) by first | exact sx_in hi (by decide) | omega) ?_))))))
  have sr12 : rng (sc xs (i + 1)) := sc_rng
  refine z_callV X 179 (rm := rmN 278) (As := [.int (Int32.ofInt (sc xs (i + 1)))]) (st := []) rfl rfl (by decide) rfl (by rw [E.1, E.2.1, E.2.2.1]; exact k_enough G Is10 JRLx_s10 (by first | exact ⟨sr12.1, sr12.2⟩ | omega) (by first | exact oq_b44a1c7f ws10_89 p1 b8.1 | omega)) ⟨by rw [E.2.2.2]; exact (show 64 + 1 ≤ 2048 from oq_5cbe2cb6), by rw [E.2.2.2]; exact (show 8 + (3 + 11) + 2742 ≤ 84000 from oq_151ba25b), by rw [E.2.2.2]; exact (show (ce + 1) + 24 ≤ 601024 by omega), by rw [E.2.2.2]; exact (show (sl + 6) + 192 ≤ 7293034 by omega)⟩ (Nat.le_of_ble_eq_true rfl) (fun vv s13 hq => ?_) (fun ee s13 hq => ?_)
  rotate_left
  · obtain ⟨Is13, Fs13, JRLx_s13, e14, hv, hrs13, hps13⟩ := hq; cases hv
  obtain ⟨Is13, Fs13, JRLx_s13, e14, hv, hrs13, hps13⟩ := hq
  cases hv
  have JRLx_s13 : RLx s13 := RLx_fm Fs13 (by decide) JRLx_s10
  have JFEQ_s13 : FEQ s13 := FEQ_fm Fs13 (by decide) JFEQ_s10
  have JARJ_s13 : ARJ s13 := ARJ_fm Fs13 ⟨by decide +kernel, by decide +kernel, by decide +kernel, by decide +kernel, by decide +kernel, by decide +kernel, by decide +kernel, by decide +kernel⟩ JARJ_s10
  have JPTJ_s13 : PTJ s13 := PTJ_fm Fs13 (by decide +kernel) JPTJ_s10
  have ws13_0 : iI s13 0 = iI s10 0 := fm_iq Fs13 rfl
  have ws13_74 : iI s13 74 = iI s10 74 := fm_iq Fs13 rfl
  have ws13_9 : iI s13 9 = iI s10 9 := fm_iq Fs13 rfl
  have ws13_90 : iI s13 90 = iI s10 90 := fm_iq Fs13 rfl
  have ws13_20 : iI s13 20 = iI s10 20 := fm_iq Fs13 rfl
  have ws13_98 : iI s13 98 = iI s10 98 := fm_iq Fs13 rfl
  have ws13_12 : iI s13 12 = iI s10 12 := fm_iq Fs13 rfl
  have b15 := bi_89 Is13
  have wos13 : iO s13 = iO s10 := fm_o Fs13 (by decide)
  show WS k 1434 [(5, .int (Int32.ofInt e11)), (0, .ref q1), (1, .ref (A 0)), (2, .ref (A 179)), (3, .ref (A 517)), (4, .int (Int32.ofInt i))] [.int (Int32.ofInt e14)] (Wd A dT s13) ((ce + 1) + 24) ((sl + 6) + 192)
  refine z_store X (lv' := [(6, .int (Int32.ofInt e14)), (5, .int (Int32.ofInt e11)), (0, .ref q1), (1, .ref (A 0)), (2, .ref (A 179)), (3, .ref (A 517)), (4, .int (Int32.ofInt i))]) rfl (by decide) (fun _ h => h) (z_goto X (t := 1894) rfl rfl (w_widen (ce' := ce + 29) (sl' := sl + 222) (by first | exact Nat.le_add_right _ _ | exact Nat.add_le_add_left (by decide) _ | omega) (by first | exact Nat.le_add_right _ _ | exact Nat.add_le_add_left (by decide) _ | omega) ?_))
  exact WS_lv (lv := [(0, .ref q1), (1, .ref (A 0)), (2, .ref (A 179)), (3, .ref (A 517)), (4, .int (Int32.ofInt i))]) (List.forall_mem_cons.mpr ⟨(List.Mem.tail _ (List.Mem.tail _ (List.Mem.head _))), (List.forall_mem_cons.mpr ⟨(List.Mem.tail _ (List.Mem.tail _ (List.Mem.tail _ (List.Mem.head _)))), (List.forall_mem_cons.mpr ⟨(List.Mem.tail _ (List.Mem.tail _ (List.Mem.tail _ (List.Mem.tail _ (List.Mem.head _))))), (List.forall_mem_cons.mpr ⟨(List.Mem.tail _ (List.Mem.tail _ (List.Mem.tail _ (List.Mem.tail _ (List.Mem.tail _ (List.Mem.head _)))))), (List.forall_mem_cons.mpr ⟨(List.Mem.tail _ (List.Mem.tail _ (List.Mem.tail _ (List.Mem.tail _ (List.Mem.tail _ (List.Mem.tail _ (List.Mem.head _))))))), (fun q h => absurd h List.not_mem_nil)⟩)⟩)⟩)⟩)⟩) (hk A _ Is13 JRLx_s13 JFEQ_s13 JARJ_s13 JPTJ_s13 (by first | exact hps13 | omega) (by first | exact oq_d7ce4408 ws13_12 ws10_12 p2 | omega) (by first | exact oq_5bcdc35f ws13_74 ws13_0 ws10_74 ws10_0 p3 | omega) (by first | exact oq_5bcdc35f ws13_90 ws13_9 ws10_90 ws10_9 p4 | omega) (by first | exact oq_5bcdc35f ws13_98 ws13_20 ws10_98 ws10_20 p5 | omega))
theorem lc_34 (G : GX l s0 D tys a0 dT) (GR : RS0 s0) (SF : SF0 s0) (GT : TXs0 s0) (GW : TXw0 s0) {k : kx_T} (X : AX k 350 dT) (E : kL k = l ∧ kS0 k = s0 ∧ kD k = D ∧ kR k = room_1) {q1 L : Nat} {xs : Nat → Int32} (S : SX k q1 L xs) (hL : L ≤ 3072) (I : Bd s) (jR : RLx s) (jFEQ : FEQ s) (jARJ : ARJ s) (jPTJ : PTJ s) (p1 : iI s 89 = 1) (p2 : iI s 12 ≤ 8) (p3 : iI s 0 = iI s 74) (p4 : iI s 9 = iI s 90) (p5 : iI s 20 = iI s 98) {i : Int} (hi : 0 ≤ i ∧ i + 6 ≤ (L : Int)) {ce sl : Nat} (hce : ce + 29 ≤ 601024) (hsl : sl + 222 ≤ 7293034) (hk : ∀ (A : Nat → Nat) (t : PS), Bd t → RLx t → FEQ t → ARJ t → PTJ t → iI t 89 = 1 → iI t 12 ≤ 8 → iI t 0 = iI t 74 → iI t 9 = iI t 90 → iI t 20 = iI t 98 → WS k 1894 [(0, .ref q1), (1, .ref (A 0)), (2, .ref (A 179)), (3, .ref (A 517)), (4, .int (Int32.ofInt i))] [] (Wd A dT t) (ce + 29) (sl + 222)) : WS k 1439 [(0, .ref q1), (1, .ref (A 0)), (2, .ref (A 179)), (3, .ref (A 517)), (4, .int (Int32.ofInt i))] [] (Wd A dT s) ce sl := by
  have F : Fm [1000, 1001, 73] [1460, 399] s s := fm_rf _ _ s
  have b1 := bi_0 I
  have b2 := bi_74 I
  have b3 := bi_9 I
  have b4 := bi_90 I
  have b5 := bi_20 I
  have b6 := bi_98 I
  have b7 := bi_12 I
  have b8 := bi_89 I
  refine z_aload_n X (x := A 0) rfl (List.Mem.tail _ (List.Mem.head _)) (z_aload_n X (x := q1) rfl (List.Mem.head _) (z_load X (x := i) rfl (List.Mem.tail _ (List.Mem.tail _ (List.Mem.tail _ (List.Mem.tail _ (List.Mem.head _))))) (z_const X rfl (z_add X rfl (z_sld X S hL rfl (show 0 ≤ (i + 1) ∧ (i + 1) < (L : Int) by first | exact sx_in hi (by decide) | omega) ?_)))))
  have sr9 : rng (sc xs (i + 1)) := sc_rng
  refine z_aload_n X (x := q1) rfl (List.Mem.head _) (z_load X (x := i) rfl (List.Mem.tail _ (List.Mem.tail _ (List.Mem.tail _ (List.Mem.tail _ (List.Mem.head _))))) (z_const X rfl (z_add X rfl (z_sld X S hL rfl (show 0 ≤ (i + 2) ∧ (i + 2) < (L : Int) by first | exact sx_in hi (by decide) | omega) ?_))))
  have sr10 : rng (sc xs (i + 2)) := sc_rng
  have N11 : ∀ e12 : Int, ((((sc xs (i + 2)) = 0) ∧ e12 = 0) ∨ (((sc xs (i + 2)) ≠ 0) ∧ e12 = 1)) → WS k 1460 [(0, .ref q1), (1, .ref (A 0)), (2, .ref (A 179)), (3, .ref (A 517)), (4, .int (Int32.ofInt i))] [.int (Int32.ofInt e12), .int (Int32.ofInt (sc xs (i + 1))), .ref (A 0)] (Wd A dT s) ce sl := by
    intro e12 he12
    have re12 : 0 ≤ e12 ∧ e12 ≤ 1 := by first | (clear he12; omega) | omega
    refine z_aload_n X (x := A 517) rfl (List.Mem.tail _ (List.Mem.tail _ (List.Mem.tail _ (List.Mem.head _)))) (z_callL X (rm := rmN 343) (As := [.ref (A 0), .int (Int32.ofInt (sc xs (i + 1))), .int (Int32.ofInt e12), .ref (A 517)]) (st := []) rfl (by decide) rfl (by rw [E.1, E.2.1, E.2.2.1]; exact lw_storm G I (by first | (clear he12; omega) | omega) (by first | (clear he12; omega) | omega)) ⟨by rw [E.2.2.2]; exact (show 9 + 1 ≤ 2048 by decide), by rw [E.2.2.2]; exact (show 8 + (5 + 11) + 168 ≤ 84000 by decide), by rw [E.2.2.2]; exact (show ce + 1 ≤ 601024 by first | exact rmo_1 hce (by decide) | exact rmo_2 hce (by decide) | omega), by rw [E.2.2.2]; exact (show sl + 6 ≤ 7293034 by first | exact rmo_1 hsl (by decide) | exact rmo_2 hsl (by decide) | omega)⟩ (Nat.le_of_ble_eq_true rfl) (fun vv A s13 hA2 hq => ?_) (fun ee A s13 hA2 hq => ?_))
    rotate_left
    · obtain ⟨Is13, Fs13, e14, hv, hrs13, hps13⟩ := hq; cases hv
    obtain ⟨Is13, Fs13, e14, hv, hrs13, hps13⟩ := hq
    cases hv
    rw [← hA2 0 (by decide)]
    rw [← hA2 179 (by decide)]
    rw [← hA2 517 (by decide)]
    have JRLx_s13 : RLx s13 := RLx_fm Fs13 (by decide) jR
    have JFEQ_s13 : FEQ s13 := FEQ_fm Fs13 (by decide) jFEQ
    have JARJ_s13 : ARJ s13 := ARJ_fm Fs13 ⟨by decide +kernel, by decide +kernel, by decide +kernel, by decide +kernel, by decide +kernel, by decide +kernel, by decide +kernel, by decide +kernel⟩ jARJ
    have JPTJ_s13 : PTJ s13 := PTJ_fm Fs13 (by decide +kernel) jPTJ
    have ws13_0 : iI s13 0 = iI s 0 := fm_iq Fs13 rfl
    have ws13_74 : iI s13 74 = iI s 74 := fm_iq Fs13 rfl
    have ws13_9 : iI s13 9 = iI s 9 := fm_iq Fs13 rfl
    have ws13_90 : iI s13 90 = iI s 90 := fm_iq Fs13 rfl
    have ws13_20 : iI s13 20 = iI s 20 := fm_iq Fs13 rfl
    have ws13_98 : iI s13 98 = iI s 98 := fm_iq Fs13 rfl
    have ws13_12 : iI s13 12 = iI s 12 := fm_iq Fs13 rfl
    have ws13_89 : iI s13 89 = iI s 89 := fm_iq Fs13 rfl
    show WS k 1464 [(0, .ref q1), (1, .ref (A 0)), (2, .ref (A 179)), (3, .ref (A 517)), (4, .int (Int32.ofInt i))] [.int (Int32.ofInt e14)] (Wd A dT s13) (ce + 1) (sl + 6)
    refine z_store X (lv' := [(5, .int (Int32.ofInt e14)), (0, .ref q1), (1, .ref (A 0)), (2, .ref (A 179)), (3, .ref (A 517)), (4, .int (Int32.ofInt i))]) rfl (by decide) (fun _ h => h) (z_aload_n X (x := A 179) rfl (List.Mem.tail _ (List.Mem.tail _ (List.Mem.tail _ (List.Mem.head _)))) (z_aload_n X (x := q1) rfl (List.Mem.tail _ (List.Mem.head _)) (z_load X (x := i) rfl (List.Mem.tail _ (List.Mem.tail _ (List.Mem.tail _ (List.Mem.tail _ (List.Mem.tail _ (List.Mem.head _)))))) (z_const X rfl (z_add X rfl (z_sld X S hL rfl (show 0 ≤ (i + 1) ∧ (i + 1) < (L : Int) by first | exact sx_in hi (by decide) | omega) ?_))))))
    have sr15 : rng (sc xs (i + 1)) := sc_rng
    refine z_aload_n X (x := q1) rfl (List.Mem.tail _ (List.Mem.head _)) (z_load X (x := i) rfl (List.Mem.tail _ (List.Mem.tail _ (List.Mem.tail _ (List.Mem.tail _ (List.Mem.tail _ (List.Mem.head _)))))) (z_const X rfl (z_add X rfl (z_sld X S hL rfl (show 0 ≤ (i + 2) ∧ (i + 2) < (L : Int) by first | exact sx_in hi (by decide) | omega) ?_))))
    have sr16 : rng (sc xs (i + 2)) := sc_rng
    have N17 : ∀ e18 : Int, ((((sc xs (i + 2)) = 0) ∧ e18 = 0) ∨ (((sc xs (i + 2)) ≠ 0) ∧ e18 = 1)) → WS k 1487 [(5, .int (Int32.ofInt e14)), (0, .ref q1), (1, .ref (A 0)), (2, .ref (A 179)), (3, .ref (A 517)), (4, .int (Int32.ofInt i))] [.int (Int32.ofInt e18), .int (Int32.ofInt (sc xs (i + 1))), .ref (A 179)] (Wd A dT s13) (ce + 1) (sl + 6) := by
      intro e18 he18
      have re18 : 0 ≤ e18 ∧ e18 ≤ 1 := by first | (clear he18 he12; omega) | (clear he12; omega) | omega
      refine z_callV X 179 (rm := rmN 279) (As := [.int (Int32.ofInt (sc xs (i + 1))), .int (Int32.ofInt e18)]) (st := []) rfl rfl (by decide) rfl (by rw [E.1, E.2.1, E.2.2.1]; exact k_storm G Is13 (by first | exact ⟨sr15.1, sr15.2⟩ | omega) (by first | exact oq_31e518ae re18.2 re18.1 | omega)) ⟨by rw [E.2.2.2]; exact (show 7 + 1 ≤ 2048 from oq_4e6106eb), by rw [E.2.2.2]; exact (show 8 + (4 + 11) + 122 ≤ 84000 from oq_ebbf79c1), by rw [E.2.2.2]; exact (show (ce + 1) + 0 ≤ 601024 by first | (clear he18 he12; omega) | (clear he12; omega) | omega), by rw [E.2.2.2]; exact (show (sl + 6) + 0 ≤ 7293034 by first | (clear he18 he12; omega) | (clear he12; omega) | omega)⟩ (Nat.le_of_ble_eq_true rfl) (fun vv s19 hq => ?_) (fun ee s19 hq => ?_)
      rotate_left
      · obtain ⟨Is19, Fs19, e20, hv, hrs19, hps19⟩ := hq; cases hv
      obtain ⟨Is19, Fs19, e20, hv, hrs19, hps19⟩ := hq
      cases hv
      have JRLx_s19 : RLx s19 := RLx_fm Fs19 (by decide) JRLx_s13
      have JFEQ_s19 : FEQ s19 := FEQ_fm Fs19 (by decide) JFEQ_s13
      have JARJ_s19 : ARJ s19 := ARJ_fm Fs19 ⟨by decide +kernel, by decide +kernel, by decide +kernel, by decide +kernel, by decide +kernel, by decide +kernel, by decide +kernel, by decide +kernel⟩ JARJ_s13
      have JPTJ_s19 : PTJ s19 := PTJ_fm Fs19 (by decide +kernel) JPTJ_s13
      have ws19_0 : iI s19 0 = iI s13 0 := fm_iq Fs19 rfl
      have ws19_74 : iI s19 74 = iI s13 74 := fm_iq Fs19 rfl
      have ws19_9 : iI s19 9 = iI s13 9 := fm_iq Fs19 rfl
      have ws19_90 : iI s19 90 = iI s13 90 := fm_iq Fs19 rfl
      have ws19_20 : iI s19 20 = iI s13 20 := fm_iq Fs19 rfl
      have ws19_98 : iI s19 98 = iI s13 98 := fm_iq Fs19 rfl
      have ws19_12 : iI s19 12 = iI s13 12 := fm_iq Fs19 rfl
      have ws19_89 : iI s19 89 = iI s13 89 := fm_iq Fs19 rfl
      have wos19 : iO s19 = iO s13 := fm_o Fs19 (by decide)
      show WS k 1490 [(5, .int (Int32.ofInt e14)), (0, .ref q1), (1, .ref (A 0)), (2, .ref (A 179)), (3, .ref (A 517)), (4, .int (Int32.ofInt i))] [.int (Int32.ofInt e20)] (Wd A dT s19) (ce + 1) (sl + 6)
      refine z_store X (lv' := [(6, .int (Int32.ofInt e20)), (5, .int (Int32.ofInt e14)), (0, .ref q1), (1, .ref (A 0)), (2, .ref (A 179)), (3, .ref (A 517)), (4, .int (Int32.ofInt i))]) rfl (by decide) (fun _ h => h) (z_goto X (t := 1894) rfl rfl (w_widen (ce' := ce + 29) (sl' := sl + 222) (by first | exact Nat.le_add_right _ _ | exact Nat.add_le_add_left (by decide) _ | omega) (by first | exact Nat.le_add_right _ _ | exact Nat.add_le_add_left (by decide) _ | omega) ?_))
      exact WS_lv (lv := [(0, .ref q1), (1, .ref (A 0)), (2, .ref (A 179)), (3, .ref (A 517)), (4, .int (Int32.ofInt i))]) (List.forall_mem_cons.mpr ⟨(List.Mem.tail _ (List.Mem.tail _ (List.Mem.head _))), (List.forall_mem_cons.mpr ⟨(List.Mem.tail _ (List.Mem.tail _ (List.Mem.tail _ (List.Mem.head _)))), (List.forall_mem_cons.mpr ⟨(List.Mem.tail _ (List.Mem.tail _ (List.Mem.tail _ (List.Mem.tail _ (List.Mem.head _))))), (List.forall_mem_cons.mpr ⟨(List.Mem.tail _ (List.Mem.tail _ (List.Mem.tail _ (List.Mem.tail _ (List.Mem.tail _ (List.Mem.head _)))))), (List.forall_mem_cons.mpr ⟨(List.Mem.tail _ (List.Mem.tail _ (List.Mem.tail _ (List.Mem.tail _ (List.Mem.tail _ (List.Mem.tail _ (List.Mem.head _))))))), (fun q h => absurd h List.not_mem_nil)⟩)⟩)⟩)⟩)⟩) (hk A _ Is19 JRLx_s19 JFEQ_s19 JARJ_s19 JPTJ_s19 (by first | exact oq_f34933ba ws19_89 ws13_89 p1 b8.1 | omega) (by first | exact oq_d7ce4408 ws19_12 ws13_12 p2 | omega) (by first | exact oq_5bcdc35f ws19_74 ws19_0 ws13_74 ws13_0 p3 | omega) (by first | exact oq_5bcdc35f ws19_90 ws19_9 ws13_90 ws13_9 p4 | omega) (by first | exact oq_5bcdc35f ws19_98 ws19_20 ws13_98 ws13_20 p5 | omega))
    refine z_if_eq X (t := 1486) rfl rfl ⟨by first | exact sr16.1 | omega, by first | exact sr16.2 | omega⟩ (fun g21 => ?_) (fun g21 => ?_)
    ·
      exact z_const X rfl (N17 _ (Or.inl ⟨g21, rfl⟩))
    ·
      exact z_const X rfl (z_goto X (t := 1487) rfl rfl (N17 _ (Or.inr (⟨g21, rfl⟩))))
  refine z_if_eq X (t := 1459) rfl rfl ⟨by first | exact sr10.1 | omega, by first | exact sr10.2 | omega⟩ (fun g22 => ?_) (fun g22 => ?_)
  ·
    exact z_const X rfl (N11 _ (Or.inl ⟨g22, rfl⟩))
  ·
    exact z_const X rfl (z_goto X (t := 1460) rfl rfl (N11 _ (Or.inr (⟨g22, rfl⟩))))
theorem lc_35 (G : GX l s0 D tys a0 dT) (GR : RS0 s0) (SF : SF0 s0) (GT : TXs0 s0) (GW : TXw0 s0) {k : kx_T} (X : AX k 350 dT) (E : kL k = l ∧ kS0 k = s0 ∧ kD k = D ∧ kR k = room_1) {q1 L : Nat} {xs : Nat → Int32} (S : SX k q1 L xs) (hL : L ≤ 3072) (I : Bd s) (jR : RLx s) (jFEQ : FEQ s) (jARJ : ARJ s) (jPTJ : PTJ s) (p1 : iI s 89 = 1) (p2 : iI s 12 ≤ 8) (p3 : iI s 0 = iI s 74) (p4 : iI s 9 = iI s 90) (p5 : iI s 20 = iI s 98) {i : Int} (hi : 0 ≤ i ∧ i + 6 ≤ (L : Int)) {ce sl : Nat} (hce : ce + 29 ≤ 601024) (hsl : sl + 222 ≤ 7293034) (hk : ∀ (A : Nat → Nat) (t : PS), Bd t → RLx t → FEQ t → ARJ t → PTJ t → iI t 89 = 1 → iI t 12 ≤ 8 → iI t 0 = iI t 74 → iI t 9 = iI t 90 → iI t 20 = iI t 98 → WS k 1894 [(0, .ref q1), (1, .ref (A 0)), (2, .ref (A 179)), (3, .ref (A 517)), (4, .int (Int32.ofInt i))] [] (Wd A dT t) (ce + 29) (sl + 222)) : WS k 1495 [(0, .ref q1), (1, .ref (A 0)), (2, .ref (A 179)), (3, .ref (A 517)), (4, .int (Int32.ofInt i))] [] (Wd A dT s) ce sl := by
  have F : Fm [43, 44, 46, 47, 49, 50, 52, 53, 55, 56, 58, 59, 61, 62, 64, 65, 67, 68, 42, 39, 40, 41, 73, 105, 106, 77, 75, 78, 79, 80, 81] [57, 58, 67, 62, 77, 78, 79, 73, 87, 80, 81, 82, 83, 84, 85, 86, 96, 89, 90, 91, 92, 93, 94, 95, 105, 98, 99, 100, 101, 102, 103, 104, 114, 107, 108, 109, 110, 111, 112, 113, 123, 116, 117, 118, 119, 120, 121, 122, 132, 125, 126, 127, 128, 129, 130, 131, 141, 134, 135, 136, 137, 138, 139, 140, 150, 143, 144, 145, 146, 147, 148, 149, 20, 76, 74, 75, 72, 1059, 1060, 1061, 1063, 1460, 401, 400, 403, 404, 232, 402, 405, 406, 407, 408, 409, 410, 411, 412, 413, 414, 415, 416, 202, 204, 205, 206, 207, 208, 209, 210, 211, 212, 213, 214, 215, 216, 217, 218, 219, 220, 221, 222, 223, 224, 225, 226, 227, 203, 161, 230] s s := fm_rf _ _ s
  have b1 := bi_0 I
  have b2 := bi_74 I
  have b3 := bi_9 I
  have b4 := bi_90 I
  have b5 := bi_20 I
  have b6 := bi_98 I
  have b7 := bi_12 I
  have b8 := bi_89 I
  refine z_aload_n X (x := A 0) rfl (List.Mem.tail _ (List.Mem.head _)) (z_aload_n X (x := q1) rfl (List.Mem.head _) (z_load X (x := i) rfl (List.Mem.tail _ (List.Mem.tail _ (List.Mem.tail _ (List.Mem.tail _ (List.Mem.head _))))) (z_const X rfl (z_add X rfl (z_sld X S hL rfl (show 0 ≤ (i + 1) ∧ (i + 1) < (L : Int) by first | exact sx_in hi (by decide) | omega) ?_)))))
  have sr9 : rng (sc xs (i + 1)) := sc_rng
  refine z_aload_n X (x := q1) rfl (List.Mem.head _) (z_load X (x := i) rfl (List.Mem.tail _ (List.Mem.tail _ (List.Mem.tail _ (List.Mem.tail _ (List.Mem.head _))))) (z_const X rfl (z_add X rfl (z_sld X S hL rfl (show 0 ≤ (i + 2) ∧ (i + 2) < (L : Int) by first | exact sx_in hi (by decide) | omega) ?_))))
  have sr10 : rng (sc xs (i + 2)) := sc_rng
  refine z_aload_n X (x := q1) rfl (List.Mem.head _) (z_load X (x := i) rfl (List.Mem.tail _ (List.Mem.tail _ (List.Mem.tail _ (List.Mem.tail _ (List.Mem.head _))))) (z_const X rfl (z_add X rfl (z_sld X S hL rfl (show 0 ≤ (i + 3) ∧ (i + 3) < (L : Int) by first | exact sx_in hi (by decide) | omega) ?_))))
  have sr11 : rng (sc xs (i + 3)) := sc_rng
  refine z_aload_n X (x := q1) rfl (List.Mem.head _) (z_load X (x := i) rfl (List.Mem.tail _ (List.Mem.tail _ (List.Mem.tail _ (List.Mem.tail _ (List.Mem.head _))))) (z_const X rfl (z_add X rfl (z_sld X S hL rfl (show 0 ≤ (i + 4) ∧ (i + 4) < (L : Int) by first | exact sx_in hi (by decide) | omega) ?_))))
  have sr12 : rng (sc xs (i + 4)) := sc_rng
  refine z_aload_n X (x := A 517) rfl (List.Mem.tail _ (List.Mem.tail _ (List.Mem.tail _ (List.Mem.head _)))) (z_callL X (rm := rmN 344) (As := [.ref (A 0), .int (Int32.ofInt (sc xs (i + 1))), .int (Int32.ofInt (sc xs (i + 2))), .int (Int32.ofInt (sc xs (i + 3))), .int (Int32.ofInt (sc xs (i + 4))), .ref (A 517)]) (st := []) rfl (by decide) rfl (by rw [E.1, E.2.1, E.2.2.1]; exact lw_mends G GR I (by omega) (by omega) (by omega) (by omega)) ⟨by rw [E.2.2.2]; exact (show 55 + 1 ≤ 2048 by decide), by rw [E.2.2.2]; exact (show 8 + (7 + 11) + 2372 ≤ 84000 by decide), by rw [E.2.2.2]; exact (show ce + 4 ≤ 601024 by first | exact rmo_1 hce (by decide) | exact rmo_2 hce (by decide) | omega), by rw [E.2.2.2]; exact (show sl + 24 ≤ 7293034 by first | exact rmo_1 hsl (by decide) | exact rmo_2 hsl (by decide) | omega)⟩ (Nat.le_of_ble_eq_true rfl) (fun vv A s13 hA2 hq => ?_) (fun ee A s13 hA2 hq => ?_))
  rotate_left
  · obtain ⟨Is13, Fs13, e14, hv, hrs13, hps13⟩ := hq; cases hv
  obtain ⟨Is13, Fs13, e14, hv, hrs13, hps13⟩ := hq
  cases hv
  rw [← hA2 0 (by decide)]
  rw [← hA2 179 (by decide)]
  rw [← hA2 517 (by decide)]
  have JRLx_s13 : RLx s13 := RLx_fm Fs13 (by decide) jR
  have JFEQ_s13 : FEQ s13 := FEQ_fm Fs13 (by decide) jFEQ
  have JARJ_s13 : ARJ s13 := ARJ_fm Fs13 ⟨by decide +kernel, by decide +kernel, by decide +kernel, by decide +kernel, by decide +kernel, by decide +kernel, by decide +kernel, by decide +kernel⟩ jARJ
  have JPTJ_s13 : PTJ s13 := PTJ_fm Fs13 (by decide +kernel) jPTJ
  have ws13_0 : iI s13 0 = iI s 0 := fm_iq Fs13 rfl
  have ws13_74 : iI s13 74 = iI s 74 := fm_iq Fs13 rfl
  have ws13_9 : iI s13 9 = iI s 9 := fm_iq Fs13 rfl
  have ws13_90 : iI s13 90 = iI s 90 := fm_iq Fs13 rfl
  have ws13_20 : iI s13 20 = iI s 20 := fm_iq Fs13 rfl
  have ws13_98 : iI s13 98 = iI s 98 := fm_iq Fs13 rfl
  have ws13_12 : iI s13 12 = iI s 12 := fm_iq Fs13 rfl
  have ws13_89 : iI s13 89 = iI s 89 := fm_iq Fs13 rfl
  show WS k 1524 [(0, .ref q1), (1, .ref (A 0)), (2, .ref (A 179)), (3, .ref (A 517)), (4, .int (Int32.ofInt i))] [.int (Int32.ofInt e14)] (Wd A dT s13) (ce + 4) (sl + 24)
  refine z_store X (lv' := [(5, .int (Int32.ofInt e14)), (0, .ref q1), (1, .ref (A 0)), (2, .ref (A 179)), (3, .ref (A 517)), (4, .int (Int32.ofInt i))]) rfl (by decide) (fun _ h => h) (z_aload_n X (x := A 179) rfl (List.Mem.tail _ (List.Mem.tail _ (List.Mem.tail _ (List.Mem.head _)))) (z_aload_n X (x := q1) rfl (List.Mem.tail _ (List.Mem.head _)) (z_load X (x := i) rfl (List.Mem.tail _ (List.Mem.tail _ (List.Mem.tail _ (List.Mem.tail _ (List.Mem.tail _ (List.Mem.head _)))))) (z_const X rfl (z_add X rfl (z_sld X S hL rfl (show 0 ≤ (i + 1) ∧ (i + 1) < (L : Int) by first | exact sx_in hi (by decide) | omega) ?_))))))
  have sr15 : rng (sc xs (i + 1)) := sc_rng
  refine z_aload_n X (x := q1) rfl (List.Mem.tail _ (List.Mem.head _)) (z_load X (x := i) rfl (List.Mem.tail _ (List.Mem.tail _ (List.Mem.tail _ (List.Mem.tail _ (List.Mem.tail _ (List.Mem.head _)))))) (z_const X rfl (z_add X rfl (z_sld X S hL rfl (show 0 ≤ (i + 2) ∧ (i + 2) < (L : Int) by first | exact sx_in hi (by decide) | omega) ?_))))
  have sr16 : rng (sc xs (i + 2)) := sc_rng
  refine z_aload_n X (x := q1) rfl (List.Mem.tail _ (List.Mem.head _)) (z_load X (x := i) rfl (List.Mem.tail _ (List.Mem.tail _ (List.Mem.tail _ (List.Mem.tail _ (List.Mem.tail _ (List.Mem.head _)))))) (z_const X rfl (z_add X rfl (z_sld X S hL rfl (show 0 ≤ (i + 3) ∧ (i + 3) < (L : Int) by first | exact sx_in hi (by decide) | omega) ?_))))
  have sr17 : rng (sc xs (i + 3)) := sc_rng
  refine z_aload_n X (x := q1) rfl (List.Mem.tail _ (List.Mem.head _)) (z_load X (x := i) rfl (List.Mem.tail _ (List.Mem.tail _ (List.Mem.tail _ (List.Mem.tail _ (List.Mem.tail _ (List.Mem.head _)))))) (z_const X rfl (z_add X rfl (z_sld X S hL rfl (show 0 ≤ (i + 4) ∧ (i + 4) < (L : Int) by first | exact sx_in hi (by decide) | omega) ?_))))
  have sr18 : rng (sc xs (i + 4)) := sc_rng
  refine z_callV X 179 (rm := rmN 286) (As := [.int (Int32.ofInt (sc xs (i + 1))), .int (Int32.ofInt (sc xs (i + 2))), .int (Int32.ofInt (sc xs (i + 3))), .int (Int32.ofInt (sc xs (i + 4)))]) (st := []) rfl rfl (by decide) rfl (by rw [E.1, E.2.1, E.2.2.1]; exact k_mends G Is13 JRLx_s13 (by first | exact ⟨sr15.1, sr15.2⟩ | omega) (by first | exact ⟨sr16.1, sr16.2⟩ | omega) (by first | exact ⟨sr17.1, sr17.2⟩ | omega) (by first | exact ⟨sr18.1, sr18.2⟩ | omega)) ⟨by rw [E.2.2.2]; exact (show 73 + 1 ≤ 2048 from oq_c67cc45d), by rw [E.2.2.2]; exact (show 8 + (7 + 11) + 3227 ≤ 84000 from oq_f40e0be7), by rw [E.2.2.2]; exact (show (ce + 4) + 0 ≤ 601024 by omega), by rw [E.2.2.2]; exact (show (sl + 24) + 0 ≤ 7293034 by omega)⟩ (Nat.le_of_ble_eq_true rfl) (fun vv s19 hq => ?_) (fun ee s19 hq => ?_)
  rotate_left
  · obtain ⟨Is19, Fs19, JRLx_s19, e20, hv, hrs19, hps19⟩ := hq; cases hv
  obtain ⟨Is19, Fs19, JRLx_s19, e20, hv, hrs19, hps19⟩ := hq
  cases hv
  have JRLx_s19 : RLx s19 := RLx_fm Fs19 (by decide) JRLx_s13
  have JFEQ_s19 : FEQ s19 := FEQ_fm Fs19 (by decide) JFEQ_s13
  have JARJ_s19 : ARJ s19 := ARJ_fm Fs19 ⟨by decide +kernel, by decide +kernel, by decide +kernel, by decide +kernel, by decide +kernel, by decide +kernel, by decide +kernel, by decide +kernel⟩ JARJ_s13
  have JPTJ_s19 : PTJ s19 := PTJ_fm Fs19 (by decide +kernel) JPTJ_s13
  have ws19_0 : iI s19 0 = iI s13 0 := fm_iq Fs19 rfl
  have ws19_74 : iI s19 74 = iI s13 74 := fm_iq Fs19 rfl
  have ws19_9 : iI s19 9 = iI s13 9 := fm_iq Fs19 rfl
  have ws19_90 : iI s19 90 = iI s13 90 := fm_iq Fs19 rfl
  have ws19_20 : iI s19 20 = iI s13 20 := fm_iq Fs19 rfl
  have ws19_98 : iI s19 98 = iI s13 98 := fm_iq Fs19 rfl
  have ws19_12 : iI s19 12 = iI s13 12 := fm_iq Fs19 rfl
  have ws19_89 : iI s19 89 = iI s13 89 := fm_iq Fs19 rfl
  have wos19 : iO s19 = iO s13 := fm_o Fs19 (by decide)
  show WS k 1554 [(5, .int (Int32.ofInt e14)), (0, .ref q1), (1, .ref (A 0)), (2, .ref (A 179)), (3, .ref (A 517)), (4, .int (Int32.ofInt i))] [.int (Int32.ofInt e20)] (Wd A dT s19) (ce + 4) (sl + 24)
  refine z_store X (lv' := [(6, .int (Int32.ofInt e20)), (5, .int (Int32.ofInt e14)), (0, .ref q1), (1, .ref (A 0)), (2, .ref (A 179)), (3, .ref (A 517)), (4, .int (Int32.ofInt i))]) rfl (by decide) (fun _ h => h) (z_goto X (t := 1894) rfl rfl (w_widen (ce' := ce + 29) (sl' := sl + 222) (by first | exact Nat.le_add_right _ _ | exact Nat.add_le_add_left (by decide) _ | omega) (by first | exact Nat.le_add_right _ _ | exact Nat.add_le_add_left (by decide) _ | omega) ?_))
  exact WS_lv (lv := [(0, .ref q1), (1, .ref (A 0)), (2, .ref (A 179)), (3, .ref (A 517)), (4, .int (Int32.ofInt i))]) (List.forall_mem_cons.mpr ⟨(List.Mem.tail _ (List.Mem.tail _ (List.Mem.head _))), (List.forall_mem_cons.mpr ⟨(List.Mem.tail _ (List.Mem.tail _ (List.Mem.tail _ (List.Mem.head _)))), (List.forall_mem_cons.mpr ⟨(List.Mem.tail _ (List.Mem.tail _ (List.Mem.tail _ (List.Mem.tail _ (List.Mem.head _))))), (List.forall_mem_cons.mpr ⟨(List.Mem.tail _ (List.Mem.tail _ (List.Mem.tail _ (List.Mem.tail _ (List.Mem.tail _ (List.Mem.head _)))))), (List.forall_mem_cons.mpr ⟨(List.Mem.tail _ (List.Mem.tail _ (List.Mem.tail _ (List.Mem.tail _ (List.Mem.tail _ (List.Mem.tail _ (List.Mem.head _))))))), (fun q h => absurd h List.not_mem_nil)⟩)⟩)⟩)⟩)⟩) (hk A _ Is19 JRLx_s19 JFEQ_s19 JARJ_s19 JPTJ_s19 (by first | exact oq_f34933ba ws19_89 ws13_89 p1 b8.1 | omega) (by first | exact oq_d7ce4408 ws19_12 ws13_12 p2 | omega) (by first | exact oq_5bcdc35f ws19_74 ws19_0 ws13_74 ws13_0 p3 | omega) (by first | exact oq_5bcdc35f ws19_90 ws19_9 ws13_90 ws13_9 p4 | omega) (by first | exact oq_5bcdc35f ws19_98 ws19_20 ws13_98 ws13_20 p5 | omega))
theorem lc_36 (G : GX l s0 D tys a0 dT) (GR : RS0 s0) (SF : SF0 s0) (GT : TXs0 s0) (GW : TXw0 s0) {k : kx_T} (X : AX k 350 dT) (E : kL k = l ∧ kS0 k = s0 ∧ kD k = D ∧ kR k = room_1) {q1 L : Nat} {xs : Nat → Int32} (S : SX k q1 L xs) (hL : L ≤ 3072) (I : Bd s) (jR : RLx s) (jFEQ : FEQ s) (jARJ : ARJ s) (jPTJ : PTJ s) (p1 : iI s 89 = 1) (p2 : iI s 12 ≤ 8) (p3 : iI s 0 = iI s 74) (p4 : iI s 9 = iI s 90) (p5 : iI s 20 = iI s 98) {i : Int} (hi : 0 ≤ i ∧ i + 6 ≤ (L : Int)) {ce sl : Nat} (hce : ce + 29 ≤ 601024) (hsl : sl + 222 ≤ 7293034) (hk : ∀ (A : Nat → Nat) (t : PS), Bd t → RLx t → FEQ t → ARJ t → PTJ t → iI t 89 = 1 → iI t 12 ≤ 8 → iI t 0 = iI t 74 → iI t 9 = iI t 90 → iI t 20 = iI t 98 → WS k 1894 [(0, .ref q1), (1, .ref (A 0)), (2, .ref (A 179)), (3, .ref (A 517)), (4, .int (Int32.ofInt i))] [] (Wd A dT t) (ce + 29) (sl + 222)) : WS k 1559 [(0, .ref q1), (1, .ref (A 0)), (2, .ref (A 179)), (3, .ref (A 517)), (4, .int (Int32.ofInt i))] [] (Wd A dT s) ce sl := by
  have F : Fm [22, 23, 70, 73, 107, 77, 75, 78, 79, 80, 81] [33, 26, 27, 28, 29, 30, 31, 32, 152, 153, 154, 1460, 202, 204, 205, 206, 207, 208, 209, 210, 211, 212, 213, 214, 215, 216, 217, 218, 219, 220, 221, 222, 223, 224, 225, 226, 227, 203, 161, 230, 417, 418, 419, 420, 421, 422, 423, 424, 425, 426, 427, 428, 429, 430, 431, 432, 433, 434, 435, 436, 437, 438, 439, 440, 441, 442, 443, 444, 445, 446, 447, 448, 449, 450, 451, 452, 453, 454, 455, 456, 457, 459] s s := fm_rf _ _ s
  have b1 := bi_0 I
  have b2 := bi_74 I
  have b3 := bi_9 I
  have b4 := bi_90 I
  have b5 := bi_20 I
  have b6 := bi_98 I
  have b7 := bi_12 I
  have b8 := bi_89 I
  refine z_aload_n X (x := A 0) rfl (List.Mem.tail _ (List.Mem.head _)) (z_aload_n X (x := q1) rfl (List.Mem.head _) (z_load X (x := i) rfl (List.Mem.tail _ (List.Mem.tail _ (List.Mem.tail _ (List.Mem.tail _ (List.Mem.head _))))) (z_const X rfl (z_add X rfl (z_sld X S hL rfl (show 0 ≤ (i + 1) ∧ (i + 1) < (L : Int) by first | exact sx_in hi (by decide) | omega) ?_)))))
  have sr9 : rng (sc xs (i + 1)) := sc_rng
  refine z_aload_n X (x := q1) rfl (List.Mem.head _) (z_load X (x := i) rfl (List.Mem.tail _ (List.Mem.tail _ (List.Mem.tail _ (List.Mem.tail _ (List.Mem.head _))))) (z_const X rfl (z_add X rfl (z_sld X S hL rfl (show 0 ≤ (i + 2) ∧ (i + 2) < (L : Int) by first | exact sx_in hi (by decide) | omega) ?_))))
  have sr10 : rng (sc xs (i + 2)) := sc_rng
  refine z_aload_n X (x := q1) rfl (List.Mem.head _) (z_load X (x := i) rfl (List.Mem.tail _ (List.Mem.tail _ (List.Mem.tail _ (List.Mem.tail _ (List.Mem.head _))))) (z_const X rfl (z_add X rfl (z_sld X S hL rfl (show 0 ≤ (i + 3) ∧ (i + 3) < (L : Int) by first | exact sx_in hi (by decide) | omega) ?_))))
  have sr11 : rng (sc xs (i + 3)) := sc_rng
  refine z_aload_n X (x := q1) rfl (List.Mem.head _) (z_load X (x := i) rfl (List.Mem.tail _ (List.Mem.tail _ (List.Mem.tail _ (List.Mem.tail _ (List.Mem.head _))))) (z_const X rfl (z_add X rfl (z_sld X S hL rfl (show 0 ≤ (i + 4) ∧ (i + 4) < (L : Int) by first | exact sx_in hi (by decide) | omega) ?_))))
  have sr12 : rng (sc xs (i + 4)) := sc_rng
  have N13 : ∀ e14 : Int, ((((sc xs (i + 4)) = 0) ∧ e14 = 0) ∨ (((sc xs (i + 4)) ≠ 0) ∧ e14 = 1)) → WS k 1592 [(0, .ref q1), (1, .ref (A 0)), (2, .ref (A 179)), (3, .ref (A 517)), (4, .int (Int32.ofInt i))] [.int (Int32.ofInt e14), .int (Int32.ofInt (sc xs (i + 3))), .int (Int32.ofInt (sc xs (i + 2))), .int (Int32.ofInt (sc xs (i + 1))), .ref (A 0)] (Wd A dT s) ce sl := by
    intro e14 he14
    have re14 : 0 ≤ e14 ∧ e14 ≤ 1 := by first | (clear he14; omega) | omega
    refine z_aload_n X (x := A 517) rfl (List.Mem.tail _ (List.Mem.tail _ (List.Mem.tail _ (List.Mem.head _)))) (z_callL X (rm := rmN 345) (As := [.ref (A 0), .int (Int32.ofInt (sc xs (i + 1))), .int (Int32.ofInt (sc xs (i + 2))), .int (Int32.ofInt (sc xs (i + 3))), .int (Int32.ofInt e14), .ref (A 517)]) (st := []) rfl (by decide) rfl (by rw [E.1, E.2.1, E.2.2.1]; exact lw_did G I (by first | (clear he14; omega) | omega) (by first | (clear he14; omega) | omega) (by first | (clear he14; omega) | omega) (by first | (clear he14; omega) | omega)) ⟨by rw [E.2.2.2]; exact (show 11 + 1 ≤ 2048 by decide), by rw [E.2.2.2]; exact (show 8 + (7 + 11) + 229 ≤ 84000 by decide), by rw [E.2.2.2]; exact (show ce + 3 ≤ 601024 by first | exact rmo_1 hce (by decide) | exact rmo_2 hce (by decide) | omega), by rw [E.2.2.2]; exact (show sl + 18 ≤ 7293034 by first | exact rmo_1 hsl (by decide) | exact rmo_2 hsl (by decide) | omega)⟩ (Nat.le_of_ble_eq_true rfl) (fun vv A s15 hA2 hq => ?_) (fun ee A s15 hA2 hq => ?_))
    rotate_left
    · obtain ⟨Is15, Fs15, e16, hv, hrs15, hps15⟩ := hq; cases hv
    obtain ⟨Is15, Fs15, e16, hv, hrs15, hps15⟩ := hq
    cases hv
    rw [← hA2 0 (by decide)]
    rw [← hA2 179 (by decide)]
    rw [← hA2 517 (by decide)]
    have JRLx_s15 : RLx s15 := RLx_fm Fs15 (by decide) jR
    have JFEQ_s15 : FEQ s15 := FEQ_fm Fs15 (by decide) jFEQ
    have JARJ_s15 : ARJ s15 := ARJ_fm Fs15 ⟨by decide +kernel, by decide +kernel, by decide +kernel, by decide +kernel, by decide +kernel, by decide +kernel, by decide +kernel, by decide +kernel⟩ jARJ
    have JPTJ_s15 : PTJ s15 := PTJ_fm Fs15 (by decide +kernel) jPTJ
    have ws15_0 : iI s15 0 = iI s 0 := fm_iq Fs15 rfl
    have ws15_74 : iI s15 74 = iI s 74 := fm_iq Fs15 rfl
    have ws15_9 : iI s15 9 = iI s 9 := fm_iq Fs15 rfl
    have ws15_90 : iI s15 90 = iI s 90 := fm_iq Fs15 rfl
    have ws15_20 : iI s15 20 = iI s 20 := fm_iq Fs15 rfl
    have ws15_98 : iI s15 98 = iI s 98 := fm_iq Fs15 rfl
    have ws15_12 : iI s15 12 = iI s 12 := fm_iq Fs15 rfl
    have ws15_89 : iI s15 89 = iI s 89 := fm_iq Fs15 rfl
    show WS k 1596 [(0, .ref q1), (1, .ref (A 0)), (2, .ref (A 179)), (3, .ref (A 517)), (4, .int (Int32.ofInt i))] [.int (Int32.ofInt e16)] (Wd A dT s15) (ce + 3) (sl + 18)
    refine z_store X (lv' := [(5, .int (Int32.ofInt e16)), (0, .ref q1), (1, .ref (A 0)), (2, .ref (A 179)), (3, .ref (A 517)), (4, .int (Int32.ofInt i))]) rfl (by decide) (fun _ h => h) (z_aload_n X (x := A 179) rfl (List.Mem.tail _ (List.Mem.tail _ (List.Mem.tail _ (List.Mem.head _)))) (z_aload_n X (x := q1) rfl (List.Mem.tail _ (List.Mem.head _)) (z_load X (x := i) rfl (List.Mem.tail _ (List.Mem.tail _ (List.Mem.tail _ (List.Mem.tail _ (List.Mem.tail _ (List.Mem.head _)))))) (z_const X rfl (z_add X rfl (z_sld X S hL rfl (show 0 ≤ (i + 1) ∧ (i + 1) < (L : Int) by first | exact sx_in hi (by decide) | omega) ?_))))))
    have sr17 : rng (sc xs (i + 1)) := sc_rng
    refine z_aload_n X (x := q1) rfl (List.Mem.tail _ (List.Mem.head _)) (z_load X (x := i) rfl (List.Mem.tail _ (List.Mem.tail _ (List.Mem.tail _ (List.Mem.tail _ (List.Mem.tail _ (List.Mem.head _)))))) (z_const X rfl (z_add X rfl (z_sld X S hL rfl (show 0 ≤ (i + 2) ∧ (i + 2) < (L : Int) by first | exact sx_in hi (by decide) | omega) ?_))))
    have sr18 : rng (sc xs (i + 2)) := sc_rng
    refine z_aload_n X (x := q1) rfl (List.Mem.tail _ (List.Mem.head _)) (z_load X (x := i) rfl (List.Mem.tail _ (List.Mem.tail _ (List.Mem.tail _ (List.Mem.tail _ (List.Mem.tail _ (List.Mem.head _)))))) (z_const X rfl (z_add X rfl (z_sld X S hL rfl (show 0 ≤ (i + 3) ∧ (i + 3) < (L : Int) by first | exact sx_in hi (by decide) | omega) ?_))))
    have sr19 : rng (sc xs (i + 3)) := sc_rng
    refine z_aload_n X (x := q1) rfl (List.Mem.tail _ (List.Mem.head _)) (z_load X (x := i) rfl (List.Mem.tail _ (List.Mem.tail _ (List.Mem.tail _ (List.Mem.tail _ (List.Mem.tail _ (List.Mem.head _)))))) (z_const X rfl (z_add X rfl (z_sld X S hL rfl (show 0 ≤ (i + 4) ∧ (i + 4) < (L : Int) by first | exact sx_in hi (by decide) | omega) ?_))))
    have sr20 : rng (sc xs (i + 4)) := sc_rng
    have N21 : ∀ e22 : Int, ((((sc xs (i + 4)) = 0) ∧ e22 = 0) ∨ (((sc xs (i + 4)) ≠ 0) ∧ e22 = 1)) → WS k 1631 [(5, .int (Int32.ofInt e16)), (0, .ref q1), (1, .ref (A 0)), (2, .ref (A 179)), (3, .ref (A 517)), (4, .int (Int32.ofInt i))] [.int (Int32.ofInt e22), .int (Int32.ofInt (sc xs (i + 3))), .int (Int32.ofInt (sc xs (i + 2))), .int (Int32.ofInt (sc xs (i + 1))), .ref (A 179)] (Wd A dT s15) (ce + 3) (sl + 18) := by
      intro e22 he22
      have re22 : 0 ≤ e22 ∧ e22 ≤ 1 := by first | (clear he22 he14; omega) | (clear he14; omega) | omega
      refine z_callV X 179 (rm := rmN 287) (As := [.int (Int32.ofInt (sc xs (i + 1))), .int (Int32.ofInt (sc xs (i + 2))), .int (Int32.ofInt (sc xs (i + 3))), .int (Int32.ofInt e22)]) (st := []) rfl rfl (by decide) rfl (by rw [E.1, E.2.1, E.2.2.1]; exact k_did G Is15 JRLx_s15 (by first | exact ⟨sr17.1, sr17.2⟩ | omega) (by first | exact ⟨sr18.1, sr18.2⟩ | omega) (by first | exact ⟨sr19.1, sr19.2⟩ | omega) (by first | exact oq_54ac7134 re22.2 re22.1 he22 | omega)) ⟨by rw [E.2.2.2]; exact (show 10 + 1 ≤ 2048 from oq_5655e407), by rw [E.2.2.2]; exact (show 8 + (6 + 11) + 189 ≤ 84000 from oq_f8649f31), by rw [E.2.2.2]; exact (show (ce + 3) + 0 ≤ 601024 by first | (clear he22 he14; omega) | (clear he14; omega) | omega), by rw [E.2.2.2]; exact (show (sl + 18) + 0 ≤ 7293034 by first | (clear he22 he14; omega) | (clear he14; omega) | omega)⟩ (Nat.le_of_ble_eq_true rfl) (fun vv s23 hq => ?_) (fun ee s23 hq => ?_)
      rotate_left
      · obtain ⟨Is23, Fs23, JRLx_s23, e24, hv, hrs23, hps23⟩ := hq; cases hv
      obtain ⟨Is23, Fs23, JRLx_s23, e24, hv, hrs23, hps23⟩ := hq
      cases hv
      have JRLx_s23 : RLx s23 := RLx_fm Fs23 (by decide) JRLx_s15
      have JFEQ_s23 : FEQ s23 := FEQ_fm Fs23 (by decide) JFEQ_s15
      have JARJ_s23 : ARJ s23 := ARJ_fm Fs23 ⟨by decide +kernel, by decide +kernel, by decide +kernel, by decide +kernel, by decide +kernel, by decide +kernel, by decide +kernel, by decide +kernel⟩ JARJ_s15
      have JPTJ_s23 : PTJ s23 := PTJ_fm Fs23 (by decide +kernel) JPTJ_s15
      have ws23_0 : iI s23 0 = iI s15 0 := fm_iq Fs23 rfl
      have ws23_74 : iI s23 74 = iI s15 74 := fm_iq Fs23 rfl
      have ws23_9 : iI s23 9 = iI s15 9 := fm_iq Fs23 rfl
      have ws23_90 : iI s23 90 = iI s15 90 := fm_iq Fs23 rfl
      have ws23_20 : iI s23 20 = iI s15 20 := fm_iq Fs23 rfl
      have ws23_98 : iI s23 98 = iI s15 98 := fm_iq Fs23 rfl
      have ws23_12 : iI s23 12 = iI s15 12 := fm_iq Fs23 rfl
      have ws23_89 : iI s23 89 = iI s15 89 := fm_iq Fs23 rfl
      have wos23 : iO s23 = iO s15 := fm_o Fs23 (by decide)
      show WS k 1634 [(5, .int (Int32.ofInt e16)), (0, .ref q1), (1, .ref (A 0)), (2, .ref (A 179)), (3, .ref (A 517)), (4, .int (Int32.ofInt i))] [.int (Int32.ofInt e24)] (Wd A dT s23) (ce + 3) (sl + 18)
      refine z_store X (lv' := [(6, .int (Int32.ofInt e24)), (5, .int (Int32.ofInt e16)), (0, .ref q1), (1, .ref (A 0)), (2, .ref (A 179)), (3, .ref (A 517)), (4, .int (Int32.ofInt i))]) rfl (by decide) (fun _ h => h) (z_goto X (t := 1894) rfl rfl (w_widen (ce' := ce + 29) (sl' := sl + 222) (by first | exact Nat.le_add_right _ _ | exact Nat.add_le_add_left (by decide) _ | omega) (by first | exact Nat.le_add_right _ _ | exact Nat.add_le_add_left (by decide) _ | omega) ?_))
      exact WS_lv (lv := [(0, .ref q1), (1, .ref (A 0)), (2, .ref (A 179)), (3, .ref (A 517)), (4, .int (Int32.ofInt i))]) (List.forall_mem_cons.mpr ⟨(List.Mem.tail _ (List.Mem.tail _ (List.Mem.head _))), (List.forall_mem_cons.mpr ⟨(List.Mem.tail _ (List.Mem.tail _ (List.Mem.tail _ (List.Mem.head _)))), (List.forall_mem_cons.mpr ⟨(List.Mem.tail _ (List.Mem.tail _ (List.Mem.tail _ (List.Mem.tail _ (List.Mem.head _))))), (List.forall_mem_cons.mpr ⟨(List.Mem.tail _ (List.Mem.tail _ (List.Mem.tail _ (List.Mem.tail _ (List.Mem.tail _ (List.Mem.head _)))))), (List.forall_mem_cons.mpr ⟨(List.Mem.tail _ (List.Mem.tail _ (List.Mem.tail _ (List.Mem.tail _ (List.Mem.tail _ (List.Mem.tail _ (List.Mem.head _))))))), (fun q h => absurd h List.not_mem_nil)⟩)⟩)⟩)⟩)⟩) (hk A _ Is23 JRLx_s23 JFEQ_s23 JARJ_s23 JPTJ_s23 (by first | exact oq_f34933ba ws23_89 ws15_89 p1 b8.1 | omega) (by first | exact oq_d7ce4408 ws23_12 ws15_12 p2 | omega) (by first | exact oq_5bcdc35f ws23_74 ws23_0 ws15_74 ws15_0 p3 | omega) (by first | exact oq_5bcdc35f ws23_90 ws23_9 ws15_90 ws15_9 p4 | omega) (by first | exact oq_5bcdc35f ws23_98 ws23_20 ws15_98 ws15_20 p5 | omega))
    refine z_if_eq X (t := 1630) rfl rfl ⟨by first | exact sr20.1 | omega, by first | exact sr20.2 | omega⟩ (fun g25 => ?_) (fun g25 => ?_)
    ·
      exact z_const X rfl (N21 _ (Or.inl ⟨g25, rfl⟩))
    ·
      exact z_const X rfl (z_goto X (t := 1631) rfl rfl (N21 _ (Or.inr (⟨g25, rfl⟩))))
  refine z_if_eq X (t := 1591) rfl rfl ⟨by first | exact sr12.1 | omega, by first | exact sr12.2 | omega⟩ (fun g26 => ?_) (fun g26 => ?_)
  ·
    exact z_const X rfl (N13 _ (Or.inl ⟨g26, rfl⟩))
  ·
    exact z_const X rfl (z_goto X (t := 1592) rfl rfl (N13 _ (Or.inr (⟨g26, rfl⟩))))
theorem lc_37 (G : GX l s0 D tys a0 dT) (GR : RS0 s0) (SF : SF0 s0) (GT : TXs0 s0) (GW : TXw0 s0) {k : kx_T} (X : AX k 350 dT) (E : kL k = l ∧ kS0 k = s0 ∧ kD k = D ∧ kR k = room_1) {q1 L : Nat} {xs : Nat → Int32} (S : SX k q1 L xs) (hL : L ≤ 3072) (I : Bd s) (jR : RLx s) (jFEQ : FEQ s) (jARJ : ARJ s) (jPTJ : PTJ s) (p1 : iI s 89 = 1) (p2 : iI s 12 ≤ 8) (p3 : iI s 0 = iI s 74) (p4 : iI s 9 = iI s 90) (p5 : iI s 20 = iI s 98) {i : Int} (hi : 0 ≤ i ∧ i + 6 ≤ (L : Int)) {ce sl : Nat} (hce : ce + 29 ≤ 601024) (hsl : sl + 222 ≤ 7293034) (hk : ∀ (A : Nat → Nat) (t : PS), Bd t → RLx t → FEQ t → ARJ t → PTJ t → iI t 89 = 1 → iI t 12 ≤ 8 → iI t 0 = iI t 74 → iI t 9 = iI t 90 → iI t 20 = iI t 98 → WS k 1894 [(0, .ref q1), (1, .ref (A 0)), (2, .ref (A 179)), (3, .ref (A 517)), (4, .int (Int32.ofInt i))] [] (Wd A dT t) (ce + 29) (sl + 222)) : WS k 1639 [(0, .ref q1), (1, .ref (A 0)), (2, .ref (A 179)), (3, .ref (A 517)), (4, .int (Int32.ofInt i))] [] (Wd A dT s) ce sl := by
  have F : Fm [71, 72, 73] [156, 155, 1460] s s := fm_rf _ _ s
  have b1 := bi_0 I
  have b2 := bi_74 I
  have b3 := bi_9 I
  have b4 := bi_90 I
  have b5 := bi_20 I
  have b6 := bi_98 I
  have b7 := bi_12 I
  have b8 := bi_89 I
  refine z_aload_n X (x := A 0) rfl (List.Mem.tail _ (List.Mem.head _)) (z_aload_n X (x := q1) rfl (List.Mem.head _) (z_load X (x := i) rfl (List.Mem.tail _ (List.Mem.tail _ (List.Mem.tail _ (List.Mem.tail _ (List.Mem.head _))))) (z_const X rfl (z_add X rfl (z_sld X S hL rfl (show 0 ≤ (i + 1) ∧ (i + 1) < (L : Int) by first | exact sx_in hi (by decide) | omega) ?_)))))
  have sr9 : rng (sc xs (i + 1)) := sc_rng
  refine z_aload_n X (x := A 517) rfl (List.Mem.tail _ (List.Mem.tail _ (List.Mem.tail _ (List.Mem.head _)))) (z_callL X (rm := rmN 346) (As := [.ref (A 0), .int (Int32.ofInt (sc xs (i + 1))), .ref (A 517)]) (st := []) rfl (by decide) rfl (by rw [E.1, E.2.1, E.2.2.1]; exact lw_fit G I (by omega)) ⟨by rw [E.2.2.2]; exact (show 10 + 1 ≤ 2048 by decide), by rw [E.2.2.2]; exact (show 8 + (4 + 11) + 190 ≤ 84000 by decide), by rw [E.2.2.2]; exact (show ce + 1 ≤ 601024 by first | exact rmo_1 hce (by decide) | exact rmo_2 hce (by decide) | omega), by rw [E.2.2.2]; exact (show sl + 6 ≤ 7293034 by first | exact rmo_1 hsl (by decide) | exact rmo_2 hsl (by decide) | omega)⟩ (Nat.le_of_ble_eq_true rfl) (fun vv A s10 hA2 hq => ?_) (fun ee A s10 hA2 hq => ?_))
  rotate_left
  · obtain ⟨Is10, Fs10, e11, hv, hrs10, hps10⟩ := hq; cases hv
  obtain ⟨Is10, Fs10, e11, hv, hrs10, hps10⟩ := hq
  cases hv
  rw [← hA2 0 (by decide)]
  rw [← hA2 179 (by decide)]
  rw [← hA2 517 (by decide)]
  have JRLx_s10 : RLx s10 := RLx_fm Fs10 (by decide) jR
  have JFEQ_s10 : FEQ s10 := FEQ_fm Fs10 (by decide) jFEQ
  have JARJ_s10 : ARJ s10 := ARJ_fm Fs10 ⟨by decide +kernel, by decide +kernel, by decide +kernel, by decide +kernel, by decide +kernel, by decide +kernel, by decide +kernel, by decide +kernel⟩ jARJ
  have JPTJ_s10 : PTJ s10 := PTJ_fm Fs10 (by decide +kernel) jPTJ
  have ws10_0 : iI s10 0 = iI s 0 := fm_iq Fs10 rfl
  have ws10_74 : iI s10 74 = iI s 74 := fm_iq Fs10 rfl
  have ws10_9 : iI s10 9 = iI s 9 := fm_iq Fs10 rfl
  have ws10_90 : iI s10 90 = iI s 90 := fm_iq Fs10 rfl
  have ws10_20 : iI s10 20 = iI s 20 := fm_iq Fs10 rfl
  have ws10_98 : iI s10 98 = iI s 98 := fm_iq Fs10 rfl
  have ws10_12 : iI s10 12 = iI s 12 := fm_iq Fs10 rfl
  have ws10_89 : iI s10 89 = iI s 89 := fm_iq Fs10 rfl
  show WS k 1650 [(0, .ref q1), (1, .ref (A 0)), (2, .ref (A 179)), (3, .ref (A 517)), (4, .int (Int32.ofInt i))] [.int (Int32.ofInt e11)] (Wd A dT s10) (ce + 1) (sl + 6)
  refine z_store X (lv' := [(5, .int (Int32.ofInt e11)), (0, .ref q1), (1, .ref (A 0)), (2, .ref (A 179)), (3, .ref (A 517)), (4, .int (Int32.ofInt i))]) rfl (by decide) (fun _ h => h) (z_aload_n X (x := A 179) rfl (List.Mem.tail _ (List.Mem.tail _ (List.Mem.tail _ (List.Mem.head _)))) (z_aload_n X (x := q1) rfl (List.Mem.tail _ (List.Mem.head _)) (z_load X (x := i) rfl (List.Mem.tail _ (List.Mem.tail _ (List.Mem.tail _ (List.Mem.tail _ (List.Mem.tail _ (List.Mem.head _)))))) (z_const X rfl (z_add X rfl (z_sld X S hL rfl (show 0 ≤ (i + 1) ∧ (i + 1) < (L : Int) by first | exact sx_in hi (by decide) | omega) ?_))))))
  have sr12 : rng (sc xs (i + 1)) := sc_rng
  refine z_callV X 179 (rm := rmN 289) (As := [.int (Int32.ofInt (sc xs (i + 1)))]) (st := []) rfl rfl (by decide) rfl (by rw [E.1, E.2.1, E.2.2.1]; exact k_fit G Is10 (by first | exact ⟨sr12.1, sr12.2⟩ | omega)) ⟨by rw [E.2.2.2]; exact (show 8 + 1 ≤ 2048 from oq_5bf2829b), by rw [E.2.2.2]; exact (show 8 + (7 + 11) + 145 ≤ 84000 from oq_8fd475f0), by rw [E.2.2.2]; exact (show (ce + 1) + 0 ≤ 601024 by omega), by rw [E.2.2.2]; exact (show (sl + 6) + 0 ≤ 7293034 by omega)⟩ (Nat.le_of_ble_eq_true rfl) (fun vv s13 hq => ?_) (fun ee s13 hq => ?_)
  rotate_left
  · obtain ⟨Is13, Fs13, e14, hv, hrs13, hps13⟩ := hq; cases hv
  obtain ⟨Is13, Fs13, e14, hv, hrs13, hps13⟩ := hq
  cases hv
  have JRLx_s13 : RLx s13 := RLx_fm Fs13 (by decide) JRLx_s10
  have JFEQ_s13 : FEQ s13 := FEQ_fm Fs13 (by decide) JFEQ_s10
  have JARJ_s13 : ARJ s13 := ARJ_fm Fs13 ⟨by decide +kernel, by decide +kernel, by decide +kernel, by decide +kernel, by decide +kernel, by decide +kernel, by decide +kernel, by decide +kernel⟩ JARJ_s10
  have JPTJ_s13 : PTJ s13 := PTJ_fm Fs13 (by decide +kernel) JPTJ_s10
  have ws13_0 : iI s13 0 = iI s10 0 := fm_iq Fs13 rfl
  have ws13_74 : iI s13 74 = iI s10 74 := fm_iq Fs13 rfl
  have ws13_9 : iI s13 9 = iI s10 9 := fm_iq Fs13 rfl
  have ws13_90 : iI s13 90 = iI s10 90 := fm_iq Fs13 rfl
  have ws13_20 : iI s13 20 = iI s10 20 := fm_iq Fs13 rfl
  have ws13_98 : iI s13 98 = iI s10 98 := fm_iq Fs13 rfl
  have ws13_12 : iI s13 12 = iI s10 12 := fm_iq Fs13 rfl
  have ws13_89 : iI s13 89 = iI s10 89 := fm_iq Fs13 rfl
  have wos13 : iO s13 = iO s10 := fm_o Fs13 (by decide)
  show WS k 1662 [(5, .int (Int32.ofInt e11)), (0, .ref q1), (1, .ref (A 0)), (2, .ref (A 179)), (3, .ref (A 517)), (4, .int (Int32.ofInt i))] [.int (Int32.ofInt e14)] (Wd A dT s13) (ce + 1) (sl + 6)
  refine z_store X (lv' := [(6, .int (Int32.ofInt e14)), (5, .int (Int32.ofInt e11)), (0, .ref q1), (1, .ref (A 0)), (2, .ref (A 179)), (3, .ref (A 517)), (4, .int (Int32.ofInt i))]) rfl (by decide) (fun _ h => h) (z_goto X (t := 1894) rfl rfl (w_widen (ce' := ce + 29) (sl' := sl + 222) (by first | exact Nat.le_add_right _ _ | exact Nat.add_le_add_left (by decide) _ | omega) (by first | exact Nat.le_add_right _ _ | exact Nat.add_le_add_left (by decide) _ | omega) ?_))
  exact WS_lv (lv := [(0, .ref q1), (1, .ref (A 0)), (2, .ref (A 179)), (3, .ref (A 517)), (4, .int (Int32.ofInt i))]) (List.forall_mem_cons.mpr ⟨(List.Mem.tail _ (List.Mem.tail _ (List.Mem.head _))), (List.forall_mem_cons.mpr ⟨(List.Mem.tail _ (List.Mem.tail _ (List.Mem.tail _ (List.Mem.head _)))), (List.forall_mem_cons.mpr ⟨(List.Mem.tail _ (List.Mem.tail _ (List.Mem.tail _ (List.Mem.tail _ (List.Mem.head _))))), (List.forall_mem_cons.mpr ⟨(List.Mem.tail _ (List.Mem.tail _ (List.Mem.tail _ (List.Mem.tail _ (List.Mem.tail _ (List.Mem.head _)))))), (List.forall_mem_cons.mpr ⟨(List.Mem.tail _ (List.Mem.tail _ (List.Mem.tail _ (List.Mem.tail _ (List.Mem.tail _ (List.Mem.tail _ (List.Mem.head _))))))), (fun q h => absurd h List.not_mem_nil)⟩)⟩)⟩)⟩)⟩) (hk A _ Is13 JRLx_s13 JFEQ_s13 JARJ_s13 JPTJ_s13 (by first | exact oq_f34933ba ws13_89 ws10_89 p1 b8.1 | omega) (by first | exact oq_d7ce4408 ws13_12 ws10_12 p2 | omega) (by first | exact oq_5bcdc35f ws13_74 ws13_0 ws10_74 ws10_0 p3 | omega) (by first | exact oq_5bcdc35f ws13_90 ws13_9 ws10_90 ws10_9 p4 | omega) (by first | exact oq_5bcdc35f ws13_98 ws13_20 ws10_98 ws10_20 p5 | omega))
theorem lc_38 (G : GX l s0 D tys a0 dT) (GR : RS0 s0) (SF : SF0 s0) (GT : TXs0 s0) (GW : TXw0 s0) {k : kx_T} (X : AX k 350 dT) (E : kL k = l ∧ kS0 k = s0 ∧ kD k = D ∧ kR k = room_1) {q1 L : Nat} {xs : Nat → Int32} (S : SX k q1 L xs) (hL : L ≤ 3072) (I : Bd s) (jR : RLx s) (jFEQ : FEQ s) (jARJ : ARJ s) (jPTJ : PTJ s) (p1 : iI s 89 = 1) (p2 : iI s 12 ≤ 8) (p3 : iI s 0 = iI s 74) (p4 : iI s 9 = iI s 90) (p5 : iI s 20 = iI s 98) {i : Int} (hi : 0 ≤ i ∧ i + 6 ≤ (L : Int)) {ce sl : Nat} (hce : ce + 29 ≤ 601024) (hsl : sl + 222 ≤ 7293034) (hk : ∀ (A : Nat → Nat) (t : PS), Bd t → RLx t → FEQ t → ARJ t → PTJ t → iI t 89 = 1 → iI t 12 ≤ 8 → iI t 0 = iI t 74 → iI t 9 = iI t 90 → iI t 20 = iI t 98 → WS k 1894 [(0, .ref q1), (1, .ref (A 0)), (2, .ref (A 179)), (3, .ref (A 517)), (4, .int (Int32.ofInt i))] [] (Wd A dT t) (ce + 29) (sl + 222)) : WS k 1667 [(0, .ref q1), (1, .ref (A 0)), (2, .ref (A 179)), (3, .ref (A 517)), (4, .int (Int32.ofInt i))] [] (Wd A dT s) ce sl := by
  have F : Fm [22, 23, 73, 77, 75, 78, 79, 80, 81] [33, 26, 27, 28, 29, 30, 31, 32, 20, 34, 1460, 161, 202, 203, 204, 205, 206, 207, 208, 209, 210, 211, 212, 213, 214, 215, 216, 217, 218, 219, 220, 221, 222, 223, 224, 225, 226, 227, 230] s s := fm_rf _ _ s
  have b1 := bi_0 I
  have b2 := bi_74 I
  have b3 := bi_9 I
  have b4 := bi_90 I
  have b5 := bi_20 I
  have b6 := bi_98 I
  have b7 := bi_12 I
  have b8 := bi_89 I
  refine z_aload_n X (x := A 0) rfl (List.Mem.tail _ (List.Mem.head _)) (z_aload_n X (x := q1) rfl (List.Mem.head _) (z_load X (x := i) rfl (List.Mem.tail _ (List.Mem.tail _ (List.Mem.tail _ (List.Mem.tail _ (List.Mem.head _))))) (z_const X rfl (z_add X rfl (z_sld X S hL rfl (show 0 ≤ (i + 1) ∧ (i + 1) < (L : Int) by first | exact sx_in hi (by decide) | omega) ?_)))))
  have sr9 : rng (sc xs (i + 1)) := sc_rng
  refine z_aload_n X (x := q1) rfl (List.Mem.head _) (z_load X (x := i) rfl (List.Mem.tail _ (List.Mem.tail _ (List.Mem.tail _ (List.Mem.tail _ (List.Mem.head _))))) (z_const X rfl (z_add X rfl (z_sld X S hL rfl (show 0 ≤ (i + 2) ∧ (i + 2) < (L : Int) by first | exact sx_in hi (by decide) | omega) ?_))))
  have sr10 : rng (sc xs (i + 2)) := sc_rng
  refine z_aload_n X (x := q1) rfl (List.Mem.head _) (z_load X (x := i) rfl (List.Mem.tail _ (List.Mem.tail _ (List.Mem.tail _ (List.Mem.tail _ (List.Mem.head _))))) (z_const X rfl (z_add X rfl (z_sld X S hL rfl (show 0 ≤ (i + 3) ∧ (i + 3) < (L : Int) by first | exact sx_in hi (by decide) | omega) ?_))))
  have sr11 : rng (sc xs (i + 3)) := sc_rng
  refine z_aload_n X (x := q1) rfl (List.Mem.head _) (z_load X (x := i) rfl (List.Mem.tail _ (List.Mem.tail _ (List.Mem.tail _ (List.Mem.tail _ (List.Mem.head _))))) (z_const X rfl (z_add X rfl (z_sld X S hL rfl (show 0 ≤ (i + 4) ∧ (i + 4) < (L : Int) by first | exact sx_in hi (by decide) | omega) ?_))))
  have sr12 : rng (sc xs (i + 4)) := sc_rng
  have N13 : ∀ e14 : Int, ((((sc xs (i + 4)) = 0) ∧ e14 = 0) ∨ (((sc xs (i + 4)) ≠ 0) ∧ e14 = 1)) → WS k 1700 [(0, .ref q1), (1, .ref (A 0)), (2, .ref (A 179)), (3, .ref (A 517)), (4, .int (Int32.ofInt i))] [.int (Int32.ofInt e14), .int (Int32.ofInt (sc xs (i + 3))), .int (Int32.ofInt (sc xs (i + 2))), .int (Int32.ofInt (sc xs (i + 1))), .ref (A 0)] (Wd A dT s) ce sl := by
    intro e14 he14
    have re14 : 0 ≤ e14 ∧ e14 ≤ 1 := by first | (clear he14; omega) | omega
    refine z_aload_n X (x := A 517) rfl (List.Mem.tail _ (List.Mem.tail _ (List.Mem.tail _ (List.Mem.head _)))) ?_
    obtain ⟨U, hU1, hU2, hU3⟩ := air_U jARJ.2.2.2.2.2.1 jARJ.1 jARJ.2.1 jARJ.2.2.1 jARJ.2.2.2.2.1 jARJ.2.2.2.2.2.2.2 (by first | (clear he14; omega) | omega) (by first | (clear he14; omega) | omega)
    refine z_callL X (rm := rmN 347) (As := [.ref (A 0), .int (Int32.ofInt (sc xs (i + 1))), .int (Int32.ofInt (sc xs (i + 2))), .int (Int32.ofInt (sc xs (i + 3))), .int (Int32.ofInt e14), .ref (A 517)]) (st := []) rfl (by decide) rfl (by rw [E.1, E.2.1, E.2.2.1]; exact lw_lead6 G I jARJ.2.2.2.2.2.1 jARJ.2.2.2.2.2.2.1 hU1 jPTJ.1 (by first | (clear he14; omega) | omega) (by first | (clear he14; omega) | omega) (by first | (clear he14; omega) | omega) (by first | (clear he14; omega) | omega)) ⟨by rw [E.2.2.2]; exact (show 11 + 1 ≤ 2048 by decide), by rw [E.2.2.2]; exact (show 8 + (7 + 11) + 230 ≤ 84000 by decide), by rw [E.2.2.2]; exact (show ce + 2 ≤ 601024 by first | exact rmo_1 hce (by decide) | exact rmo_2 hce (by decide) | omega), by rw [E.2.2.2]; exact (show sl + 12 ≤ 7293034 by first | exact rmo_1 hsl (by decide) | exact rmo_2 hsl (by decide) | omega)⟩ (Nat.le_of_ble_eq_true rfl) (fun vv A s15 hA2 hq => ?_) (fun ee A s15 hA2 hq => ?_)
    rotate_left
    · obtain ⟨Is15, Fs15, e16, hv, hrs15, hps15⟩ := hq; cases hv
    obtain ⟨Is15, Fs15, e16, hv, hrs15, hps15⟩ := hq
    cases hv
    rw [← hA2 0 (by decide)]
    rw [← hA2 179 (by decide)]
    rw [← hA2 517 (by decide)]
    have JRLx_s15 : RLx s15 := RLx_fm Fs15 (by decide) jR
    have JFEQ_s15 : FEQ s15 := FEQ_fm Fs15 (by decide) jFEQ
    have JARJ_s15 : ARJ s15 := ARJ_fm Fs15 ⟨by decide +kernel, by decide +kernel, by decide +kernel, by decide +kernel, by decide +kernel, by decide +kernel, by decide +kernel, by decide +kernel⟩ jARJ
    have JPTJ_s15 : PTJ s15 := PTJ_fm Fs15 (by decide +kernel) jPTJ
    have JMDJ_s15 : MDJ U s15 := MDJ_fm Fs15 (by decide +kernel) hU2
    have ws15_0 : iI s15 0 = iI s 0 := fm_iq Fs15 rfl
    have ws15_74 : iI s15 74 = iI s 74 := fm_iq Fs15 rfl
    have ws15_9 : iI s15 9 = iI s 9 := fm_iq Fs15 rfl
    have ws15_90 : iI s15 90 = iI s 90 := fm_iq Fs15 rfl
    have ws15_20 : iI s15 20 = iI s 20 := fm_iq Fs15 rfl
    have ws15_98 : iI s15 98 = iI s 98 := fm_iq Fs15 rfl
    have ws15_12 : iI s15 12 = iI s 12 := fm_iq Fs15 rfl
    have ws15_89 : iI s15 89 = iI s 89 := fm_iq Fs15 rfl
    show WS k 1704 [(0, .ref q1), (1, .ref (A 0)), (2, .ref (A 179)), (3, .ref (A 517)), (4, .int (Int32.ofInt i))] [.int (Int32.ofInt e16)] (Wd A dT s15) (ce + 2) (sl + 12)
    refine z_store X (lv' := [(5, .int (Int32.ofInt e16)), (0, .ref q1), (1, .ref (A 0)), (2, .ref (A 179)), (3, .ref (A 517)), (4, .int (Int32.ofInt i))]) rfl (by decide) (fun _ h => h) (z_aload_n X (x := A 179) rfl (List.Mem.tail _ (List.Mem.tail _ (List.Mem.tail _ (List.Mem.head _)))) (z_aload_n X (x := q1) rfl (List.Mem.tail _ (List.Mem.head _)) (z_load X (x := i) rfl (List.Mem.tail _ (List.Mem.tail _ (List.Mem.tail _ (List.Mem.tail _ (List.Mem.tail _ (List.Mem.head _)))))) (z_const X rfl (z_add X rfl (z_sld X S hL rfl (show 0 ≤ (i + 1) ∧ (i + 1) < (L : Int) by first | exact sx_in hi (by decide) | omega) ?_))))))
    have sr17 : rng (sc xs (i + 1)) := sc_rng
    refine z_aload_n X (x := q1) rfl (List.Mem.tail _ (List.Mem.head _)) (z_load X (x := i) rfl (List.Mem.tail _ (List.Mem.tail _ (List.Mem.tail _ (List.Mem.tail _ (List.Mem.tail _ (List.Mem.head _)))))) (z_const X rfl (z_add X rfl (z_sld X S hL rfl (show 0 ≤ (i + 2) ∧ (i + 2) < (L : Int) by first | exact sx_in hi (by decide) | omega) ?_))))
    have sr18 : rng (sc xs (i + 2)) := sc_rng
    refine z_aload_n X (x := q1) rfl (List.Mem.tail _ (List.Mem.head _)) (z_load X (x := i) rfl (List.Mem.tail _ (List.Mem.tail _ (List.Mem.tail _ (List.Mem.tail _ (List.Mem.tail _ (List.Mem.head _)))))) (z_const X rfl (z_add X rfl (z_sld X S hL rfl (show 0 ≤ (i + 3) ∧ (i + 3) < (L : Int) by first | exact sx_in hi (by decide) | omega) ?_))))
    have sr19 : rng (sc xs (i + 3)) := sc_rng
    refine z_aload_n X (x := q1) rfl (List.Mem.tail _ (List.Mem.head _)) (z_load X (x := i) rfl (List.Mem.tail _ (List.Mem.tail _ (List.Mem.tail _ (List.Mem.tail _ (List.Mem.tail _ (List.Mem.head _)))))) (z_const X rfl (z_add X rfl (z_sld X S hL rfl (show 0 ≤ (i + 4) ∧ (i + 4) < (L : Int) by first | exact sx_in hi (by decide) | omega) ?_))))
    have sr20 : rng (sc xs (i + 4)) := sc_rng
    refine z_if_eq X (t := 1738) rfl rfl ⟨by first | exact sr20.1 | omega, by first | exact sr20.2 | omega⟩ (fun g21 => ?_) (fun g21 => ?_)
    ·
      refine z_const X rfl (z_callV X 179 (rm := rmN 290) (As := [.int (Int32.ofInt (sc xs (i + 1))), .int (Int32.ofInt (sc xs (i + 2))), .int (Int32.ofInt (sc xs (i + 3))), .int (Int32.ofInt 0)]) (st := []) rfl rfl (by decide) rfl (by rw [E.1, E.2.1, E.2.2.1]; exact k_lead6 G Is15 JRLx_s15 JMDJ_s15 (by first | exact ⟨sr17.1, sr17.2⟩ | omega) (by first | exact ⟨sr18.1, sr18.2⟩ | omega) (by first | exact ⟨sr19.1, sr19.2⟩ | omega) (by first | exact Or.inl (by decide) | omega) (by first | exact oq_b44a1c7f ws15_89 p1 b8.1 | omega)) ⟨by rw [E.2.2.2]; exact (show 37 + 1 ≤ 2048 from oq_2596b3cb), by rw [E.2.2.2]; exact (show 8 + (10 + 11) + 1578 ≤ 84000 from oq_d572abc1), by rw [E.2.2.2]; exact (show (ce + 2) + 1 ≤ 601024 by first | (clear hps15 he14; omega) | (clear he14; omega) | omega), by rw [E.2.2.2]; exact (show (sl + 12) + 12 ≤ 7293034 by first | (clear hps15 he14; omega) | (clear he14; omega) | omega)⟩ (Nat.le_of_ble_eq_true rfl) (fun vv s22 hq => ?_) (fun ee s22 hq => ?_))
      rotate_left
      · obtain ⟨Is22, Fs22, JRLx_s22, e23, hv, hrs22, hps22⟩ := hq; cases hv
      obtain ⟨Is22, Fs22, JRLx_s22, e23, hv, hrs22, hps22⟩ := hq
      cases hv
      have JRLx_s22 : RLx s22 := RLx_fm Fs22 (by decide) JRLx_s15
      have JFEQ_s22 : FEQ s22 := FEQ_fm Fs22 (by decide) JFEQ_s15
      have JARJ_s22 : ARJ s22 := ARJ_fm Fs22 ⟨by decide +kernel, by decide +kernel, by decide +kernel, by decide +kernel, by decide +kernel, by decide +kernel, by decide +kernel, by decide +kernel⟩ JARJ_s15
      have JPTJ_s22 : PTJ s22 := PTJ_fm Fs22 (by decide +kernel) JPTJ_s15
      have ws22_0 : iI s22 0 = iI s15 0 := fm_iq Fs22 rfl
      have ws22_74 : iI s22 74 = iI s15 74 := fm_iq Fs22 rfl
      have ws22_9 : iI s22 9 = iI s15 9 := fm_iq Fs22 rfl
      have ws22_90 : iI s22 90 = iI s15 90 := fm_iq Fs22 rfl
      have ws22_20 : iI s22 20 = iI s15 20 := fm_iq Fs22 rfl
      have ws22_98 : iI s22 98 = iI s15 98 := fm_iq Fs22 rfl
      have ws22_12 : iI s22 12 = iI s15 12 := fm_iq Fs22 rfl
      have ws22_89 : iI s22 89 = iI s15 89 := fm_iq Fs22 rfl
      have wos22 : iO s22 = iO s15 := fm_o Fs22 (by decide)
      show WS k 1742 [(5, .int (Int32.ofInt e16)), (0, .ref q1), (1, .ref (A 0)), (2, .ref (A 179)), (3, .ref (A 517)), (4, .int (Int32.ofInt i))] [.int (Int32.ofInt e23)] (Wd A dT s22) ((ce + 2) + 1) ((sl + 12) + 12)
      rcases hps15 with cc | cc
      ·
        rcases hps22 with mm | mm
        ·
          have rq24 := lde_eqw (fun j hj => (jPTJ.2.1 j hj).trans ((sam_fm Fs15 (by decide +kernel) : SAM 228 _ _) j).symm) cc.2.2.2 mm.2.2.2 (by first | (clear hps22 hps15 he14; omega) | (clear hps15 he14; omega) | omega)
          refine z_store X (lv' := [(6, .int (Int32.ofInt e23)), (5, .int (Int32.ofInt e16)), (0, .ref q1), (1, .ref (A 0)), (2, .ref (A 179)), (3, .ref (A 517)), (4, .int (Int32.ofInt i))]) rfl (by decide) (fun _ h => h) (z_aload_n X (x := A 179) rfl (List.Mem.tail _ (List.Mem.tail _ (List.Mem.tail _ (List.Mem.tail _ (List.Mem.head _))))) (z_callV X 179 (rm := rmN 186) (As := []) (st := []) rfl rfl (by decide) rfl (by rw [E.1, E.2.1, E.2.2.1]; exact k_thrown2 G Is22 ) ⟨by rw [E.2.2.2]; exact (show 6 + 1 ≤ 2048 from oq_4d34cb53), by rw [E.2.2.2]; exact (show 8 + (1 + 11) + 100 ≤ 84000 from oq_a32dccc4), by rw [E.2.2.2]; exact (show ((ce + 2) + 1) + 0 ≤ 601024 by first | (clear hps22 hps15 he14; omega) | (clear hps15 he14; omega) | omega), by rw [E.2.2.2]; exact (show ((sl + 12) + 12) + 0 ≤ 7293034 by first | (clear hps22 hps15 he14; omega) | (clear hps15 he14; omega) | omega)⟩ (Nat.le_of_ble_eq_true rfl) (fun vv s25 hq => ?_) (fun ee s25 hq => ?_)))
          rotate_left
          · obtain ⟨rfl, e26, hv, hrs25, hps25⟩ := hq; cases hv
          obtain ⟨rfl, e26, hv, hrs25, hps25⟩ := hq
          cases hv
          show WS k 1748 [(6, .int (Int32.ofInt e23)), (5, .int (Int32.ofInt e16)), (0, .ref q1), (1, .ref (A 0)), (2, .ref (A 179)), (3, .ref (A 517)), (4, .int (Int32.ofInt i))] [.int (Int32.ofInt e26)] (Wd A dT s22) ((ce + 2) + 1) ((sl + 12) + 12)
          refine z_load X (x := e16) rfl (List.Mem.tail _ (List.Mem.head _)) (z_icmp_eq X (t := 1755) rfl rfl hrs25 ⟨by first | (clear hps22 hps15 he14; omega) | (clear hps15 he14; omega) | omega, by first | (clear hps22 hps15 he14; omega) | (clear hps15 he14; omega) | omega⟩ (fun g27 => ?_) (fun g27 => ?_))
          ·
            refine z_load X (x := e16) rfl (List.Mem.tail _ (List.Mem.head _)) (z_if_ne X (t := 1772) rfl rfl ⟨by first | (clear hps22 hps15 he14; omega) | (clear hps15 he14; omega) | omega, by first | (clear hps22 hps15 he14; omega) | (clear hps15 he14; omega) | omega⟩ (fun g28 => ?_) (fun g28 => ?_))
            ·
              refine z_goto X (t := 1894) rfl rfl (w_widen (ce' := ce + 29) (sl' := sl + 222) (by first | exact Nat.le_add_right _ _ | exact Nat.add_le_add_left (by decide) _ | omega) (by first | exact Nat.le_add_right _ _ | exact Nat.add_le_add_left (by decide) _ | omega) ?_)
              exact WS_lv (lv := [(0, .ref q1), (1, .ref (A 0)), (2, .ref (A 179)), (3, .ref (A 517)), (4, .int (Int32.ofInt i))]) (List.forall_mem_cons.mpr ⟨(List.Mem.tail _ (List.Mem.tail _ (List.Mem.head _))), (List.forall_mem_cons.mpr ⟨(List.Mem.tail _ (List.Mem.tail _ (List.Mem.tail _ (List.Mem.head _)))), (List.forall_mem_cons.mpr ⟨(List.Mem.tail _ (List.Mem.tail _ (List.Mem.tail _ (List.Mem.tail _ (List.Mem.head _))))), (List.forall_mem_cons.mpr ⟨(List.Mem.tail _ (List.Mem.tail _ (List.Mem.tail _ (List.Mem.tail _ (List.Mem.tail _ (List.Mem.head _)))))), (List.forall_mem_cons.mpr ⟨(List.Mem.tail _ (List.Mem.tail _ (List.Mem.tail _ (List.Mem.tail _ (List.Mem.tail _ (List.Mem.tail _ (List.Mem.head _))))))), (fun q h => absurd h List.not_mem_nil)⟩)⟩)⟩)⟩)⟩) (hk A _ Is22 JRLx_s22 JFEQ_s22 JARJ_s22 JPTJ_s22 (by first | exact oq_f34933ba ws22_89 ws15_89 p1 b8.1 | omega) (by first | exact oq_d7ce4408 ws22_12 ws15_12 p2 | omega) (by first | exact oq_5bcdc35f ws22_74 ws22_0 ws15_74 ws15_0 p3 | omega) (by first | exact oq_5bcdc35f ws22_90 ws22_9 ws15_90 ws15_9 p4 | omega) (by first | exact oq_5bcdc35f ws22_98 ws22_20 ws15_98 ws15_20 p5 | omega))
            ·
              refine z_aload_n X (x := A 517) rfl (List.Mem.tail _ (List.Mem.tail _ (List.Mem.tail _ (List.Mem.tail _ (List.Mem.tail _ (List.Mem.head _)))))) (z_const X rfl (z_lO X rfl (z_load X (x := e23) rfl (List.Mem.head _) (w_i2l X.1 (ax_d X (show cdA 350 1765 = some (.i2l, 1, 0, 0, 0) from rfl)) (w_lcmp X.1 (ax_d X (show cdA 350 1766 = some (.lcmp, 1, 0, 0, 0) from rfl)) (z_lc (show rng e23 by first | (clear hps22 hps15 he14; omega) | (clear hps15 he14; omega) | omega) (fun c29 hc29 ic29 => ?_)))))))
              show WS k 1767 [(6, .int (Int32.ofInt e23)), (5, .int (Int32.ofInt e16)), (0, .ref q1), (1, .ref (A 0)), (2, .ref (A 179)), (3, .ref (A 517)), (4, .int (Int32.ofInt i))] [.int (Int32.ofInt c29)] (Wd A dT s22) ((ce + 2) + 1) ((sl + 12) + 12)
              refine z_if_eq X (t := 1772) rfl rfl ⟨by first | (clear hps22 hps15 he14; omega) | (clear hps15 he14; omega) | omega, by first | (clear hps22 hps15 he14; omega) | (clear hps15 he14; omega) | omega⟩ (fun g30 => ?_) (fun g30 => ?_)
              ·
                refine z_goto X (t := 1894) rfl rfl (w_widen (ce' := ce + 29) (sl' := sl + 222) (by first | exact Nat.le_add_right _ _ | exact Nat.add_le_add_left (by decide) _ | omega) (by first | exact Nat.le_add_right _ _ | exact Nat.add_le_add_left (by decide) _ | omega) ?_)
                exact WS_lv (lv := [(0, .ref q1), (1, .ref (A 0)), (2, .ref (A 179)), (3, .ref (A 517)), (4, .int (Int32.ofInt i))]) (List.forall_mem_cons.mpr ⟨(List.Mem.tail _ (List.Mem.tail _ (List.Mem.head _))), (List.forall_mem_cons.mpr ⟨(List.Mem.tail _ (List.Mem.tail _ (List.Mem.tail _ (List.Mem.head _)))), (List.forall_mem_cons.mpr ⟨(List.Mem.tail _ (List.Mem.tail _ (List.Mem.tail _ (List.Mem.tail _ (List.Mem.head _))))), (List.forall_mem_cons.mpr ⟨(List.Mem.tail _ (List.Mem.tail _ (List.Mem.tail _ (List.Mem.tail _ (List.Mem.tail _ (List.Mem.head _)))))), (List.forall_mem_cons.mpr ⟨(List.Mem.tail _ (List.Mem.tail _ (List.Mem.tail _ (List.Mem.tail _ (List.Mem.tail _ (List.Mem.tail _ (List.Mem.head _))))))), (fun q h => absurd h List.not_mem_nil)⟩)⟩)⟩)⟩)⟩) (hk A _ Is22 JRLx_s22 JFEQ_s22 JARJ_s22 JPTJ_s22 (by first | exact oq_f34933ba ws22_89 ws15_89 p1 b8.1 | omega) (by first | exact oq_d7ce4408 ws22_12 ws15_12 p2 | omega) (by first | exact oq_5bcdc35f ws22_74 ws22_0 ws15_74 ws15_0 p3 | omega) (by first | exact oq_5bcdc35f ws22_90 ws22_9 ws15_90 ws15_9 p4 | omega) (by first | exact oq_5bcdc35f ws22_98 ws22_20 ws15_98 ws15_20 p5 | omega))
              ·
                exfalso
                omega
          ·
            exfalso
            omega
        ·
          exfalso
          omega
      ·
        rcases hps22 with mm | mm
        ·
          exfalso
          omega
        ·
          refine z_store X (lv' := [(6, .int (Int32.ofInt e23)), (5, .int (Int32.ofInt e16)), (0, .ref q1), (1, .ref (A 0)), (2, .ref (A 179)), (3, .ref (A 517)), (4, .int (Int32.ofInt i))]) rfl (by decide) (fun _ h => h) (z_aload_n X (x := A 179) rfl (List.Mem.tail _ (List.Mem.tail _ (List.Mem.tail _ (List.Mem.tail _ (List.Mem.head _))))) (z_callV X 179 (rm := rmN 186) (As := []) (st := []) rfl rfl (by decide) rfl (by rw [E.1, E.2.1, E.2.2.1]; exact k_thrown2 G Is22 ) ⟨by rw [E.2.2.2]; exact (show 6 + 1 ≤ 2048 from oq_4d34cb53), by rw [E.2.2.2]; exact (show 8 + (1 + 11) + 100 ≤ 84000 from oq_a32dccc4), by rw [E.2.2.2]; exact (show ((ce + 2) + 1) + 0 ≤ 601024 by first | (clear hps22 hps15 he14; omega) | (clear hps15 he14; omega) | omega), by rw [E.2.2.2]; exact (show ((sl + 12) + 12) + 0 ≤ 7293034 by first | (clear hps22 hps15 he14; omega) | (clear hps15 he14; omega) | omega)⟩ (Nat.le_of_ble_eq_true rfl) (fun vv s31 hq => ?_) (fun ee s31 hq => ?_)))
          rotate_left
          · obtain ⟨rfl, e32, hv, hrs31, hps31⟩ := hq; cases hv
          obtain ⟨rfl, e32, hv, hrs31, hps31⟩ := hq
          cases hv
          show WS k 1748 [(6, .int (Int32.ofInt e23)), (5, .int (Int32.ofInt e16)), (0, .ref q1), (1, .ref (A 0)), (2, .ref (A 179)), (3, .ref (A 517)), (4, .int (Int32.ofInt i))] [.int (Int32.ofInt e32)] (Wd A dT s22) ((ce + 2) + 1) ((sl + 12) + 12)
          refine z_load X (x := e16) rfl (List.Mem.tail _ (List.Mem.head _)) (z_icmp_eq X (t := 1755) rfl rfl hrs31 ⟨by first | (clear hps22 hps15 he14; omega) | (clear hps15 he14; omega) | omega, by first | (clear hps22 hps15 he14; omega) | (clear hps15 he14; omega) | omega⟩ (fun g33 => ?_) (fun g33 => ?_))
          ·
            refine z_load X (x := e16) rfl (List.Mem.tail _ (List.Mem.head _)) (z_if_ne X (t := 1772) rfl rfl ⟨by first | (clear hps22 hps15 he14; omega) | (clear hps15 he14; omega) | omega, by first | (clear hps22 hps15 he14; omega) | (clear hps15 he14; omega) | omega⟩ (fun g34 => ?_) (fun g34 => ?_))
            ·
              refine z_goto X (t := 1894) rfl rfl (w_widen (ce' := ce + 29) (sl' := sl + 222) (by first | exact Nat.le_add_right _ _ | exact Nat.add_le_add_left (by decide) _ | omega) (by first | exact Nat.le_add_right _ _ | exact Nat.add_le_add_left (by decide) _ | omega) ?_)
              exact WS_lv (lv := [(0, .ref q1), (1, .ref (A 0)), (2, .ref (A 179)), (3, .ref (A 517)), (4, .int (Int32.ofInt i))]) (List.forall_mem_cons.mpr ⟨(List.Mem.tail _ (List.Mem.tail _ (List.Mem.head _))), (List.forall_mem_cons.mpr ⟨(List.Mem.tail _ (List.Mem.tail _ (List.Mem.tail _ (List.Mem.head _)))), (List.forall_mem_cons.mpr ⟨(List.Mem.tail _ (List.Mem.tail _ (List.Mem.tail _ (List.Mem.tail _ (List.Mem.head _))))), (List.forall_mem_cons.mpr ⟨(List.Mem.tail _ (List.Mem.tail _ (List.Mem.tail _ (List.Mem.tail _ (List.Mem.tail _ (List.Mem.head _)))))), (List.forall_mem_cons.mpr ⟨(List.Mem.tail _ (List.Mem.tail _ (List.Mem.tail _ (List.Mem.tail _ (List.Mem.tail _ (List.Mem.tail _ (List.Mem.head _))))))), (fun q h => absurd h List.not_mem_nil)⟩)⟩)⟩)⟩)⟩) (hk A _ Is22 JRLx_s22 JFEQ_s22 JARJ_s22 JPTJ_s22 (by first | exact oq_f34933ba ws22_89 ws15_89 p1 b8.1 | omega) (by first | exact oq_d7ce4408 ws22_12 ws15_12 p2 | omega) (by first | exact oq_5bcdc35f ws22_74 ws22_0 ws15_74 ws15_0 p3 | omega) (by first | exact oq_5bcdc35f ws22_90 ws22_9 ws15_90 ws15_9 p4 | omega) (by first | exact oq_5bcdc35f ws22_98 ws22_20 ws15_98 ws15_20 p5 | omega))
            ·
              refine z_aload_n X (x := A 517) rfl (List.Mem.tail _ (List.Mem.tail _ (List.Mem.tail _ (List.Mem.tail _ (List.Mem.tail _ (List.Mem.head _)))))) (z_const X rfl (z_lO X rfl (z_load X (x := e23) rfl (List.Mem.head _) (w_i2l X.1 (ax_d X (show cdA 350 1765 = some (.i2l, 1, 0, 0, 0) from rfl)) (w_lcmp X.1 (ax_d X (show cdA 350 1766 = some (.lcmp, 1, 0, 0, 0) from rfl)) (z_lc (show rng e23 by first | (clear hps22 hps15 he14; omega) | (clear hps15 he14; omega) | omega) (fun c35 hc35 ic35 => ?_)))))))
              show WS k 1767 [(6, .int (Int32.ofInt e23)), (5, .int (Int32.ofInt e16)), (0, .ref q1), (1, .ref (A 0)), (2, .ref (A 179)), (3, .ref (A 517)), (4, .int (Int32.ofInt i))] [.int (Int32.ofInt c35)] (Wd A dT s22) ((ce + 2) + 1) ((sl + 12) + 12)
              refine z_if_eq X (t := 1772) rfl rfl ⟨by first | (clear hps22 hps15 he14; omega) | (clear hps15 he14; omega) | omega, by first | (clear hps22 hps15 he14; omega) | (clear hps15 he14; omega) | omega⟩ (fun g36 => ?_) (fun g36 => ?_)
              ·
                refine z_goto X (t := 1894) rfl rfl (w_widen (ce' := ce + 29) (sl' := sl + 222) (by first | exact Nat.le_add_right _ _ | exact Nat.add_le_add_left (by decide) _ | omega) (by first | exact Nat.le_add_right _ _ | exact Nat.add_le_add_left (by decide) _ | omega) ?_)
                exact WS_lv (lv := [(0, .ref q1), (1, .ref (A 0)), (2, .ref (A 179)), (3, .ref (A 517)), (4, .int (Int32.ofInt i))]) (List.forall_mem_cons.mpr ⟨(List.Mem.tail _ (List.Mem.tail _ (List.Mem.head _))), (List.forall_mem_cons.mpr ⟨(List.Mem.tail _ (List.Mem.tail _ (List.Mem.tail _ (List.Mem.head _)))), (List.forall_mem_cons.mpr ⟨(List.Mem.tail _ (List.Mem.tail _ (List.Mem.tail _ (List.Mem.tail _ (List.Mem.head _))))), (List.forall_mem_cons.mpr ⟨(List.Mem.tail _ (List.Mem.tail _ (List.Mem.tail _ (List.Mem.tail _ (List.Mem.tail _ (List.Mem.head _)))))), (List.forall_mem_cons.mpr ⟨(List.Mem.tail _ (List.Mem.tail _ (List.Mem.tail _ (List.Mem.tail _ (List.Mem.tail _ (List.Mem.tail _ (List.Mem.head _))))))), (fun q h => absurd h List.not_mem_nil)⟩)⟩)⟩)⟩)⟩) (hk A _ Is22 JRLx_s22 JFEQ_s22 JARJ_s22 JPTJ_s22 (by first | exact oq_f34933ba ws22_89 ws15_89 p1 b8.1 | omega) (by first | exact oq_d7ce4408 ws22_12 ws15_12 p2 | omega) (by first | exact oq_5bcdc35f ws22_74 ws22_0 ws15_74 ws15_0 p3 | omega) (by first | exact oq_5bcdc35f ws22_90 ws22_9 ws15_90 ws15_9 p4 | omega) (by first | exact oq_5bcdc35f ws22_98 ws22_20 ws15_98 ws15_20 p5 | omega))
              ·
                exfalso
                omega
          ·
            exfalso
            omega
    ·
      refine z_const X rfl (z_goto X (t := 1739) rfl rfl (z_callV X 179 (rm := rmN 290) (As := [.int (Int32.ofInt (sc xs (i + 1))), .int (Int32.ofInt (sc xs (i + 2))), .int (Int32.ofInt (sc xs (i + 3))), .int (Int32.ofInt 1)]) (st := []) rfl rfl (by decide) rfl (by rw [E.1, E.2.1, E.2.2.1]; exact k_lead6 G Is15 JRLx_s15 JMDJ_s15 (by first | exact ⟨sr17.1, sr17.2⟩ | omega) (by first | exact ⟨sr18.1, sr18.2⟩ | omega) (by first | exact ⟨sr19.1, sr19.2⟩ | omega) (by first | exact Or.inr (by decide) | omega) (by first | exact oq_b44a1c7f ws15_89 p1 b8.1 | omega)) ⟨by rw [E.2.2.2]; exact (show 37 + 1 ≤ 2048 from oq_2596b3cb), by rw [E.2.2.2]; exact (show 8 + (10 + 11) + 1578 ≤ 84000 from oq_d572abc1), by rw [E.2.2.2]; exact (show (ce + 2) + 1 ≤ 601024 by first | (clear g21 hps15 he14; omega) | (clear hps15 he14; omega) | omega), by rw [E.2.2.2]; exact (show (sl + 12) + 12 ≤ 7293034 by first | (clear g21 hps15 he14; omega) | (clear hps15 he14; omega) | omega)⟩ (Nat.le_of_ble_eq_true rfl) (fun vv s37 hq => ?_) (fun ee s37 hq => ?_)))
      rotate_left
      · obtain ⟨Is37, Fs37, JRLx_s37, e38, hv, hrs37, hps37⟩ := hq; cases hv
      obtain ⟨Is37, Fs37, JRLx_s37, e38, hv, hrs37, hps37⟩ := hq
      cases hv
      have JRLx_s37 : RLx s37 := RLx_fm Fs37 (by decide) JRLx_s15
      have JFEQ_s37 : FEQ s37 := FEQ_fm Fs37 (by decide) JFEQ_s15
      have JARJ_s37 : ARJ s37 := ARJ_fm Fs37 ⟨by decide +kernel, by decide +kernel, by decide +kernel, by decide +kernel, by decide +kernel, by decide +kernel, by decide +kernel, by decide +kernel⟩ JARJ_s15
      have JPTJ_s37 : PTJ s37 := PTJ_fm Fs37 (by decide +kernel) JPTJ_s15
      have ws37_0 : iI s37 0 = iI s15 0 := fm_iq Fs37 rfl
      have ws37_74 : iI s37 74 = iI s15 74 := fm_iq Fs37 rfl
      have ws37_9 : iI s37 9 = iI s15 9 := fm_iq Fs37 rfl
      have ws37_90 : iI s37 90 = iI s15 90 := fm_iq Fs37 rfl
      have ws37_20 : iI s37 20 = iI s15 20 := fm_iq Fs37 rfl
      have ws37_98 : iI s37 98 = iI s15 98 := fm_iq Fs37 rfl
      have ws37_12 : iI s37 12 = iI s15 12 := fm_iq Fs37 rfl
      have ws37_89 : iI s37 89 = iI s15 89 := fm_iq Fs37 rfl
      have wos37 : iO s37 = iO s15 := fm_o Fs37 (by decide)
      show WS k 1742 [(5, .int (Int32.ofInt e16)), (0, .ref q1), (1, .ref (A 0)), (2, .ref (A 179)), (3, .ref (A 517)), (4, .int (Int32.ofInt i))] [.int (Int32.ofInt e38)] (Wd A dT s37) ((ce + 2) + 1) ((sl + 12) + 12)
      rcases hps15 with cc | cc
      ·
        rcases hps37 with mm | mm
        ·
          have rq39 := lde_eqw (fun j hj => (jPTJ.2.1 j hj).trans ((sam_fm Fs15 (by decide +kernel) : SAM 228 _ _) j).symm) cc.2.2.2 mm.2.2.2 (by first | (clear hps37 g21 hps15 he14; omega) | (clear g21 hps15 he14; omega) | omega)
          refine z_store X (lv' := [(6, .int (Int32.ofInt e38)), (5, .int (Int32.ofInt e16)), (0, .ref q1), (1, .ref (A 0)), (2, .ref (A 179)), (3, .ref (A 517)), (4, .int (Int32.ofInt i))]) rfl (by decide) (fun _ h => h) (z_aload_n X (x := A 179) rfl (List.Mem.tail _ (List.Mem.tail _ (List.Mem.tail _ (List.Mem.tail _ (List.Mem.head _))))) (z_callV X 179 (rm := rmN 186) (As := []) (st := []) rfl rfl (by decide) rfl (by rw [E.1, E.2.1, E.2.2.1]; exact k_thrown2 G Is37 ) ⟨by rw [E.2.2.2]; exact (show 6 + 1 ≤ 2048 from oq_4d34cb53), by rw [E.2.2.2]; exact (show 8 + (1 + 11) + 100 ≤ 84000 from oq_a32dccc4), by rw [E.2.2.2]; exact (show ((ce + 2) + 1) + 0 ≤ 601024 by first | (clear hps37 g21 hps15 he14; omega) | (clear g21 hps15 he14; omega) | omega), by rw [E.2.2.2]; exact (show ((sl + 12) + 12) + 0 ≤ 7293034 by first | (clear hps37 g21 hps15 he14; omega) | (clear g21 hps15 he14; omega) | omega)⟩ (Nat.le_of_ble_eq_true rfl) (fun vv s40 hq => ?_) (fun ee s40 hq => ?_)))
          rotate_left
          · obtain ⟨rfl, e41, hv, hrs40, hps40⟩ := hq; cases hv
          obtain ⟨rfl, e41, hv, hrs40, hps40⟩ := hq
          cases hv
          show WS k 1748 [(6, .int (Int32.ofInt e38)), (5, .int (Int32.ofInt e16)), (0, .ref q1), (1, .ref (A 0)), (2, .ref (A 179)), (3, .ref (A 517)), (4, .int (Int32.ofInt i))] [.int (Int32.ofInt e41)] (Wd A dT s37) ((ce + 2) + 1) ((sl + 12) + 12)
          refine z_load X (x := e16) rfl (List.Mem.tail _ (List.Mem.head _)) (z_icmp_eq X (t := 1755) rfl rfl hrs40 ⟨by first | (clear hps37 g21 hps15 he14; omega) | (clear g21 hps15 he14; omega) | omega, by first | (clear hps37 g21 hps15 he14; omega) | (clear g21 hps15 he14; omega) | omega⟩ (fun g42 => ?_) (fun g42 => ?_))
          ·
            refine z_load X (x := e16) rfl (List.Mem.tail _ (List.Mem.head _)) (z_if_ne X (t := 1772) rfl rfl ⟨by first | (clear hps37 g21 hps15 he14; omega) | (clear g21 hps15 he14; omega) | omega, by first | (clear hps37 g21 hps15 he14; omega) | (clear g21 hps15 he14; omega) | omega⟩ (fun g43 => ?_) (fun g43 => ?_))
            ·
              refine z_goto X (t := 1894) rfl rfl (w_widen (ce' := ce + 29) (sl' := sl + 222) (by first | exact Nat.le_add_right _ _ | exact Nat.add_le_add_left (by decide) _ | omega) (by first | exact Nat.le_add_right _ _ | exact Nat.add_le_add_left (by decide) _ | omega) ?_)
              exact WS_lv (lv := [(0, .ref q1), (1, .ref (A 0)), (2, .ref (A 179)), (3, .ref (A 517)), (4, .int (Int32.ofInt i))]) (List.forall_mem_cons.mpr ⟨(List.Mem.tail _ (List.Mem.tail _ (List.Mem.head _))), (List.forall_mem_cons.mpr ⟨(List.Mem.tail _ (List.Mem.tail _ (List.Mem.tail _ (List.Mem.head _)))), (List.forall_mem_cons.mpr ⟨(List.Mem.tail _ (List.Mem.tail _ (List.Mem.tail _ (List.Mem.tail _ (List.Mem.head _))))), (List.forall_mem_cons.mpr ⟨(List.Mem.tail _ (List.Mem.tail _ (List.Mem.tail _ (List.Mem.tail _ (List.Mem.tail _ (List.Mem.head _)))))), (List.forall_mem_cons.mpr ⟨(List.Mem.tail _ (List.Mem.tail _ (List.Mem.tail _ (List.Mem.tail _ (List.Mem.tail _ (List.Mem.tail _ (List.Mem.head _))))))), (fun q h => absurd h List.not_mem_nil)⟩)⟩)⟩)⟩)⟩) (hk A _ Is37 JRLx_s37 JFEQ_s37 JARJ_s37 JPTJ_s37 (by first | exact oq_f34933ba ws37_89 ws15_89 p1 b8.1 | omega) (by first | exact oq_d7ce4408 ws37_12 ws15_12 p2 | omega) (by first | exact oq_5bcdc35f ws37_74 ws37_0 ws15_74 ws15_0 p3 | omega) (by first | exact oq_5bcdc35f ws37_90 ws37_9 ws15_90 ws15_9 p4 | omega) (by first | exact oq_5bcdc35f ws37_98 ws37_20 ws15_98 ws15_20 p5 | omega))
            ·
              refine z_aload_n X (x := A 517) rfl (List.Mem.tail _ (List.Mem.tail _ (List.Mem.tail _ (List.Mem.tail _ (List.Mem.tail _ (List.Mem.head _)))))) (z_const X rfl (z_lO X rfl (z_load X (x := e38) rfl (List.Mem.head _) (w_i2l X.1 (ax_d X (show cdA 350 1765 = some (.i2l, 1, 0, 0, 0) from rfl)) (w_lcmp X.1 (ax_d X (show cdA 350 1766 = some (.lcmp, 1, 0, 0, 0) from rfl)) (z_lc (show rng e38 by first | (clear hps37 g21 hps15 he14; omega) | (clear g21 hps15 he14; omega) | omega) (fun c44 hc44 ic44 => ?_)))))))
              show WS k 1767 [(6, .int (Int32.ofInt e38)), (5, .int (Int32.ofInt e16)), (0, .ref q1), (1, .ref (A 0)), (2, .ref (A 179)), (3, .ref (A 517)), (4, .int (Int32.ofInt i))] [.int (Int32.ofInt c44)] (Wd A dT s37) ((ce + 2) + 1) ((sl + 12) + 12)
              refine z_if_eq X (t := 1772) rfl rfl ⟨by first | (clear hps37 g21 hps15 he14; omega) | (clear g21 hps15 he14; omega) | omega, by first | (clear hps37 g21 hps15 he14; omega) | (clear g21 hps15 he14; omega) | omega⟩ (fun g45 => ?_) (fun g45 => ?_)
              ·
                refine z_goto X (t := 1894) rfl rfl (w_widen (ce' := ce + 29) (sl' := sl + 222) (by first | exact Nat.le_add_right _ _ | exact Nat.add_le_add_left (by decide) _ | omega) (by first | exact Nat.le_add_right _ _ | exact Nat.add_le_add_left (by decide) _ | omega) ?_)
                exact WS_lv (lv := [(0, .ref q1), (1, .ref (A 0)), (2, .ref (A 179)), (3, .ref (A 517)), (4, .int (Int32.ofInt i))]) (List.forall_mem_cons.mpr ⟨(List.Mem.tail _ (List.Mem.tail _ (List.Mem.head _))), (List.forall_mem_cons.mpr ⟨(List.Mem.tail _ (List.Mem.tail _ (List.Mem.tail _ (List.Mem.head _)))), (List.forall_mem_cons.mpr ⟨(List.Mem.tail _ (List.Mem.tail _ (List.Mem.tail _ (List.Mem.tail _ (List.Mem.head _))))), (List.forall_mem_cons.mpr ⟨(List.Mem.tail _ (List.Mem.tail _ (List.Mem.tail _ (List.Mem.tail _ (List.Mem.tail _ (List.Mem.head _)))))), (List.forall_mem_cons.mpr ⟨(List.Mem.tail _ (List.Mem.tail _ (List.Mem.tail _ (List.Mem.tail _ (List.Mem.tail _ (List.Mem.tail _ (List.Mem.head _))))))), (fun q h => absurd h List.not_mem_nil)⟩)⟩)⟩)⟩)⟩) (hk A _ Is37 JRLx_s37 JFEQ_s37 JARJ_s37 JPTJ_s37 (by first | exact oq_f34933ba ws37_89 ws15_89 p1 b8.1 | omega) (by first | exact oq_d7ce4408 ws37_12 ws15_12 p2 | omega) (by first | exact oq_5bcdc35f ws37_74 ws37_0 ws15_74 ws15_0 p3 | omega) (by first | exact oq_5bcdc35f ws37_90 ws37_9 ws15_90 ws15_9 p4 | omega) (by first | exact oq_5bcdc35f ws37_98 ws37_20 ws15_98 ws15_20 p5 | omega))
              ·
                exfalso
                omega
          ·
            exfalso
            omega
        ·
          exfalso
          omega
      ·
        rcases hps37 with mm | mm
        ·
          exfalso
          omega
        ·
          refine z_store X (lv' := [(6, .int (Int32.ofInt e38)), (5, .int (Int32.ofInt e16)), (0, .ref q1), (1, .ref (A 0)), (2, .ref (A 179)), (3, .ref (A 517)), (4, .int (Int32.ofInt i))]) rfl (by decide) (fun _ h => h) (z_aload_n X (x := A 179) rfl (List.Mem.tail _ (List.Mem.tail _ (List.Mem.tail _ (List.Mem.tail _ (List.Mem.head _))))) (z_callV X 179 (rm := rmN 186) (As := []) (st := []) rfl rfl (by decide) rfl (by rw [E.1, E.2.1, E.2.2.1]; exact k_thrown2 G Is37 ) ⟨by rw [E.2.2.2]; exact (show 6 + 1 ≤ 2048 from oq_4d34cb53), by rw [E.2.2.2]; exact (show 8 + (1 + 11) + 100 ≤ 84000 from oq_a32dccc4), by rw [E.2.2.2]; exact (show ((ce + 2) + 1) + 0 ≤ 601024 by first | (clear hps37 g21 hps15 he14; omega) | (clear g21 hps15 he14; omega) | omega), by rw [E.2.2.2]; exact (show ((sl + 12) + 12) + 0 ≤ 7293034 by first | (clear hps37 g21 hps15 he14; omega) | (clear g21 hps15 he14; omega) | omega)⟩ (Nat.le_of_ble_eq_true rfl) (fun vv s46 hq => ?_) (fun ee s46 hq => ?_)))
          rotate_left
          · obtain ⟨rfl, e47, hv, hrs46, hps46⟩ := hq; cases hv
          obtain ⟨rfl, e47, hv, hrs46, hps46⟩ := hq
          cases hv
          show WS k 1748 [(6, .int (Int32.ofInt e38)), (5, .int (Int32.ofInt e16)), (0, .ref q1), (1, .ref (A 0)), (2, .ref (A 179)), (3, .ref (A 517)), (4, .int (Int32.ofInt i))] [.int (Int32.ofInt e47)] (Wd A dT s37) ((ce + 2) + 1) ((sl + 12) + 12)
          refine z_load X (x := e16) rfl (List.Mem.tail _ (List.Mem.head _)) (z_icmp_eq X (t := 1755) rfl rfl hrs46 ⟨by first | (clear hps37 g21 hps15 he14; omega) | (clear g21 hps15 he14; omega) | omega, by first | (clear hps37 g21 hps15 he14; omega) | (clear g21 hps15 he14; omega) | omega⟩ (fun g48 => ?_) (fun g48 => ?_))
          ·
            refine z_load X (x := e16) rfl (List.Mem.tail _ (List.Mem.head _)) (z_if_ne X (t := 1772) rfl rfl ⟨by first | (clear hps37 g21 hps15 he14; omega) | (clear g21 hps15 he14; omega) | omega, by first | (clear hps37 g21 hps15 he14; omega) | (clear g21 hps15 he14; omega) | omega⟩ (fun g49 => ?_) (fun g49 => ?_))
            ·
              refine z_goto X (t := 1894) rfl rfl (w_widen (ce' := ce + 29) (sl' := sl + 222) (by first | exact Nat.le_add_right _ _ | exact Nat.add_le_add_left (by decide) _ | omega) (by first | exact Nat.le_add_right _ _ | exact Nat.add_le_add_left (by decide) _ | omega) ?_)
              exact WS_lv (lv := [(0, .ref q1), (1, .ref (A 0)), (2, .ref (A 179)), (3, .ref (A 517)), (4, .int (Int32.ofInt i))]) (List.forall_mem_cons.mpr ⟨(List.Mem.tail _ (List.Mem.tail _ (List.Mem.head _))), (List.forall_mem_cons.mpr ⟨(List.Mem.tail _ (List.Mem.tail _ (List.Mem.tail _ (List.Mem.head _)))), (List.forall_mem_cons.mpr ⟨(List.Mem.tail _ (List.Mem.tail _ (List.Mem.tail _ (List.Mem.tail _ (List.Mem.head _))))), (List.forall_mem_cons.mpr ⟨(List.Mem.tail _ (List.Mem.tail _ (List.Mem.tail _ (List.Mem.tail _ (List.Mem.tail _ (List.Mem.head _)))))), (List.forall_mem_cons.mpr ⟨(List.Mem.tail _ (List.Mem.tail _ (List.Mem.tail _ (List.Mem.tail _ (List.Mem.tail _ (List.Mem.tail _ (List.Mem.head _))))))), (fun q h => absurd h List.not_mem_nil)⟩)⟩)⟩)⟩)⟩) (hk A _ Is37 JRLx_s37 JFEQ_s37 JARJ_s37 JPTJ_s37 (by first | exact oq_f34933ba ws37_89 ws15_89 p1 b8.1 | omega) (by first | exact oq_d7ce4408 ws37_12 ws15_12 p2 | omega) (by first | exact oq_5bcdc35f ws37_74 ws37_0 ws15_74 ws15_0 p3 | omega) (by first | exact oq_5bcdc35f ws37_90 ws37_9 ws15_90 ws15_9 p4 | omega) (by first | exact oq_5bcdc35f ws37_98 ws37_20 ws15_98 ws15_20 p5 | omega))
            ·
              refine z_aload_n X (x := A 517) rfl (List.Mem.tail _ (List.Mem.tail _ (List.Mem.tail _ (List.Mem.tail _ (List.Mem.tail _ (List.Mem.head _)))))) (z_const X rfl (z_lO X rfl (z_load X (x := e38) rfl (List.Mem.head _) (w_i2l X.1 (ax_d X (show cdA 350 1765 = some (.i2l, 1, 0, 0, 0) from rfl)) (w_lcmp X.1 (ax_d X (show cdA 350 1766 = some (.lcmp, 1, 0, 0, 0) from rfl)) (z_lc (show rng e38 by first | (clear hps37 g21 hps15 he14; omega) | (clear g21 hps15 he14; omega) | omega) (fun c50 hc50 ic50 => ?_)))))))
              show WS k 1767 [(6, .int (Int32.ofInt e38)), (5, .int (Int32.ofInt e16)), (0, .ref q1), (1, .ref (A 0)), (2, .ref (A 179)), (3, .ref (A 517)), (4, .int (Int32.ofInt i))] [.int (Int32.ofInt c50)] (Wd A dT s37) ((ce + 2) + 1) ((sl + 12) + 12)
              refine z_if_eq X (t := 1772) rfl rfl ⟨by first | (clear hps37 g21 hps15 he14; omega) | (clear g21 hps15 he14; omega) | omega, by first | (clear hps37 g21 hps15 he14; omega) | (clear g21 hps15 he14; omega) | omega⟩ (fun g51 => ?_) (fun g51 => ?_)
              ·
                refine z_goto X (t := 1894) rfl rfl (w_widen (ce' := ce + 29) (sl' := sl + 222) (by first | exact Nat.le_add_right _ _ | exact Nat.add_le_add_left (by decide) _ | omega) (by first | exact Nat.le_add_right _ _ | exact Nat.add_le_add_left (by decide) _ | omega) ?_)
                exact WS_lv (lv := [(0, .ref q1), (1, .ref (A 0)), (2, .ref (A 179)), (3, .ref (A 517)), (4, .int (Int32.ofInt i))]) (List.forall_mem_cons.mpr ⟨(List.Mem.tail _ (List.Mem.tail _ (List.Mem.head _))), (List.forall_mem_cons.mpr ⟨(List.Mem.tail _ (List.Mem.tail _ (List.Mem.tail _ (List.Mem.head _)))), (List.forall_mem_cons.mpr ⟨(List.Mem.tail _ (List.Mem.tail _ (List.Mem.tail _ (List.Mem.tail _ (List.Mem.head _))))), (List.forall_mem_cons.mpr ⟨(List.Mem.tail _ (List.Mem.tail _ (List.Mem.tail _ (List.Mem.tail _ (List.Mem.tail _ (List.Mem.head _)))))), (List.forall_mem_cons.mpr ⟨(List.Mem.tail _ (List.Mem.tail _ (List.Mem.tail _ (List.Mem.tail _ (List.Mem.tail _ (List.Mem.tail _ (List.Mem.head _))))))), (fun q h => absurd h List.not_mem_nil)⟩)⟩)⟩)⟩)⟩) (hk A _ Is37 JRLx_s37 JFEQ_s37 JARJ_s37 JPTJ_s37 (by first | exact oq_f34933ba ws37_89 ws15_89 p1 b8.1 | omega) (by first | exact oq_d7ce4408 ws37_12 ws15_12 p2 | omega) (by first | exact oq_5bcdc35f ws37_74 ws37_0 ws15_74 ws15_0 p3 | omega) (by first | exact oq_5bcdc35f ws37_90 ws37_9 ws15_90 ws15_9 p4 | omega) (by first | exact oq_5bcdc35f ws37_98 ws37_20 ws15_98 ws15_20 p5 | omega))
              ·
                exfalso
                omega
          ·
            exfalso
            omega
  refine z_if_eq X (t := 1699) rfl rfl ⟨by first | exact sr12.1 | omega, by first | exact sr12.2 | omega⟩ (fun g52 => ?_) (fun g52 => ?_)
  ·
    exact z_const X rfl (N13 _ (Or.inl ⟨g52, rfl⟩))
  ·
    exact z_const X rfl (z_goto X (t := 1700) rfl rfl (N13 _ (Or.inr (⟨g52, rfl⟩))))
theorem lc_39 (G : GX l s0 D tys a0 dT) (GR : RS0 s0) (SF : SF0 s0) (GT : TXs0 s0) (GW : TXw0 s0) {k : kx_T} (X : AX k 350 dT) (E : kL k = l ∧ kS0 k = s0 ∧ kD k = D ∧ kR k = room_1) {q1 L : Nat} {xs : Nat → Int32} (S : SX k q1 L xs) (hL : L ≤ 3072) (I : Bd s) (jR : RLx s) (jFEQ : FEQ s) (jARJ : ARJ s) (jPTJ : PTJ s) (p1 : iI s 89 = 1) (p2 : iI s 12 ≤ 8) (p3 : iI s 0 = iI s 74) (p4 : iI s 9 = iI s 90) (p5 : iI s 20 = iI s 98) {i : Int} (hi : 0 ≤ i ∧ i + 6 ≤ (L : Int)) {ce sl : Nat} (hce : ce + 29 ≤ 601024) (hsl : sl + 222 ≤ 7293034) (hk : ∀ (A : Nat → Nat) (t : PS), Bd t → RLx t → FEQ t → ARJ t → PTJ t → iI t 89 = 1 → iI t 12 ≤ 8 → iI t 0 = iI t 74 → iI t 9 = iI t 90 → iI t 20 = iI t 98 → WS k 1894 [(0, .ref q1), (1, .ref (A 0)), (2, .ref (A 179)), (3, .ref (A 517)), (4, .int (Int32.ofInt i))] [] (Wd A dT t) (ce + 29) (sl + 222)) : WS k 1775 [(0, .ref q1), (1, .ref (A 0)), (2, .ref (A 179)), (3, .ref (A 517)), (4, .int (Int32.ofInt i))] [] (Wd A dT s) ce sl := by
  have F : Fm [22, 23, 24, 73, 77, 75, 78, 79, 80, 81] [33, 26, 27, 28, 29, 30, 31, 32, 20, 36, 37, 35, 21, 1022, 1023, 1460, 202, 204, 205, 206, 207, 208, 209, 210, 211, 212, 213, 214, 215, 216, 217, 218, 219, 220, 221, 222, 223, 224, 225, 226, 227, 203, 161, 230, 233, 228] s s := fm_rf _ _ s
  have b1 := bi_0 I
  have b2 := bi_74 I
  have b3 := bi_9 I
  have b4 := bi_90 I
  have b5 := bi_20 I
  have b6 := bi_98 I
  have b7 := bi_12 I
  have b8 := bi_89 I
  refine z_aload_n X (x := A 0) rfl (List.Mem.tail _ (List.Mem.head _)) (z_aload_n X (x := q1) rfl (List.Mem.head _) (z_load X (x := i) rfl (List.Mem.tail _ (List.Mem.tail _ (List.Mem.tail _ (List.Mem.tail _ (List.Mem.head _))))) (z_const X rfl (z_add X rfl (z_sld X S hL rfl (show 0 ≤ (i + 1) ∧ (i + 1) < (L : Int) by first | exact sx_in hi (by decide) | omega) ?_)))))
  have sr9 : rng (sc xs (i + 1)) := sc_rng
  refine z_aload_n X (x := q1) rfl (List.Mem.head _) (z_load X (x := i) rfl (List.Mem.tail _ (List.Mem.tail _ (List.Mem.tail _ (List.Mem.tail _ (List.Mem.head _))))) (z_const X rfl (z_add X rfl (z_sld X S hL rfl (show 0 ≤ (i + 2) ∧ (i + 2) < (L : Int) by first | exact sx_in hi (by decide) | omega) ?_))))
  have sr10 : rng (sc xs (i + 2)) := sc_rng
  refine z_aload_n X (x := A 517) rfl (List.Mem.tail _ (List.Mem.tail _ (List.Mem.tail _ (List.Mem.head _)))) ?_
  obtain ⟨U, hU1, hU2, hU3⟩ := air_U jARJ.2.2.2.2.2.1 jARJ.1 jARJ.2.1 jARJ.2.2.1 jARJ.2.2.2.2.1 jARJ.2.2.2.2.2.2.2 (by first | exact p4 | omega) (by first | exact b3.1 | omega)
  refine z_callL X (rm := rmN 348) (As := [.ref (A 0), .int (Int32.ofInt (sc xs (i + 1))), .int (Int32.ofInt (sc xs (i + 2))), .ref (A 517)]) (st := []) rfl (by decide) rfl (by rw [E.1, E.2.1, E.2.2.1]; exact lw_worth6 G I jARJ.2.2.2.2.2.1 jARJ.2.2.2.2.2.2.1 hU1 jPTJ.1 (by first | exact And.intro (sr9.1) (sr9.2) | omega) (by first | exact And.intro (sr10.1) (sr10.2) | omega)) ⟨by rw [E.2.2.2]; exact (show 13 + 1 ≤ 2048 by decide), by rw [E.2.2.2]; exact (show 8 + (5 + 11) + 262 ≤ 84000 by decide), by rw [E.2.2.2]; exact (show ce + 3 ≤ 601024 by first | exact rmo_1 hce (by decide) | exact rmo_2 hce (by decide) | omega), by rw [E.2.2.2]; exact (show sl + 18 ≤ 7293034 by first | exact rmo_1 hsl (by decide) | exact rmo_2 hsl (by decide) | omega)⟩ (Nat.le_of_ble_eq_true rfl) (fun vv A s11 hA2 hq => ?_) (fun ee A s11 hA2 hq => ?_)
  rotate_left
  · obtain ⟨Is11, Fs11, JPMJ_s11, e12, hv, hrs11, hps11⟩ := hq; cases hv
  obtain ⟨Is11, Fs11, JPMJ_s11, e12, hv, hrs11, hps11⟩ := hq
  cases hv
  rw [← hA2 0 (by decide)]
  rw [← hA2 179 (by decide)]
  rw [← hA2 517 (by decide)]
  have JRLx_s11 : RLx s11 := RLx_fm Fs11 (by decide) jR
  have JFEQ_s11 : FEQ s11 := FEQ_fm Fs11 (by decide) jFEQ
  have JARJ_s11 : ARJ s11 := ARJ_fm Fs11 ⟨by decide +kernel, by decide +kernel, by decide +kernel, by decide +kernel, by decide +kernel, by decide +kernel, by decide +kernel, by decide +kernel⟩ jARJ
  have JALJ_s11 : AEQ 24 229 8 s11 := ALJ_fm Fs11 (by decide) jPTJ.2.2.1
  have JMKJ_s11 : MKJ s11 := MKJ_fm Fs11 (by decide +kernel) jPTJ.2.2.2
  have JMDJ_s11 : MDJ U s11 := MDJ_fm Fs11 (by decide +kernel) hU2
  have ws11_0 : iI s11 0 = iI s 0 := fm_iq Fs11 rfl
  have ws11_74 : iI s11 74 = iI s 74 := fm_iq Fs11 rfl
  have ws11_9 : iI s11 9 = iI s 9 := fm_iq Fs11 rfl
  have ws11_90 : iI s11 90 = iI s 90 := fm_iq Fs11 rfl
  have ws11_20 : iI s11 20 = iI s 20 := fm_iq Fs11 rfl
  have ws11_98 : iI s11 98 = iI s 98 := fm_iq Fs11 rfl
  have ws11_12 : iI s11 12 = iI s 12 := fm_iq Fs11 rfl
  have ws11_89 : iI s11 89 = iI s 89 := fm_iq Fs11 rfl
  show WS k 1792 [(0, .ref q1), (1, .ref (A 0)), (2, .ref (A 179)), (3, .ref (A 517)), (4, .int (Int32.ofInt i))] [.int (Int32.ofInt e12)] (Wd A dT s11) (ce + 3) (sl + 18)
  refine z_store X (lv' := [(5, .int (Int32.ofInt e12)), (0, .ref q1), (1, .ref (A 0)), (2, .ref (A 179)), (3, .ref (A 517)), (4, .int (Int32.ofInt i))]) rfl (by decide) (fun _ h => h) (z_aload_n X (x := A 179) rfl (List.Mem.tail _ (List.Mem.tail _ (List.Mem.tail _ (List.Mem.head _)))) (z_aload_n X (x := q1) rfl (List.Mem.tail _ (List.Mem.head _)) (z_load X (x := i) rfl (List.Mem.tail _ (List.Mem.tail _ (List.Mem.tail _ (List.Mem.tail _ (List.Mem.tail _ (List.Mem.head _)))))) (z_const X rfl (z_add X rfl (z_sld X S hL rfl (show 0 ≤ (i + 1) ∧ (i + 1) < (L : Int) by first | exact sx_in hi (by decide) | omega) ?_))))))
  have sr13 : rng (sc xs (i + 1)) := sc_rng
  refine z_aload_n X (x := q1) rfl (List.Mem.tail _ (List.Mem.head _)) (z_load X (x := i) rfl (List.Mem.tail _ (List.Mem.tail _ (List.Mem.tail _ (List.Mem.tail _ (List.Mem.tail _ (List.Mem.head _)))))) (z_const X rfl (z_add X rfl (z_sld X S hL rfl (show 0 ≤ (i + 2) ∧ (i + 2) < (L : Int) by first | exact sx_in hi (by decide) | omega) ?_))))
  have sr14 : rng (sc xs (i + 2)) := sc_rng
  refine z_callV X 179 (rm := rmN 291) (As := [.int (Int32.ofInt (sc xs (i + 1))), .int (Int32.ofInt (sc xs (i + 2)))]) (st := []) rfl rfl (by decide) rfl (by rw [E.1, E.2.1, E.2.2.1]; exact k_worth6 G Is11 JRLx_s11 JMDJ_s11 (by first | exact ⟨sr13.1, sr13.2⟩ | omega) (by first | exact ⟨sr14.1, sr14.2⟩ | omega) (by first | exact oq_b44a1c7f ws11_89 p1 b8.1 | omega)) ⟨by rw [E.2.2.2]; exact (show 41 + 1 ≤ 2048 from oq_2c2f0271), by rw [E.2.2.2]; exact (show 8 + (6 + 11) + 1663 ≤ 84000 from oq_b102b2ee), by rw [E.2.2.2]; exact (show (ce + 3) + 0 ≤ 601024 by first | exact oq_0a958bad hce | (clear hps11; omega) | omega), by rw [E.2.2.2]; exact (show (sl + 18) + 0 ≤ 7293034 by first | exact oq_21dd3b4d hsl | (clear hps11; omega) | omega)⟩ (Nat.le_of_ble_eq_true rfl) (fun vv s15 hq => ?_) (fun ee s15 hq => ?_)
  rotate_left
  · obtain ⟨Is15, Fs15, JRLx_s15, e16, hv, hrs15, hps15⟩ := hq; cases hv
  obtain ⟨Is15, Fs15, JRLx_s15, e16, hv, hrs15, hps15⟩ := hq
  cases hv
  have JRLx_s15 : RLx s15 := RLx_fm Fs15 (by decide) JRLx_s11
  have JFEQ_s15 : FEQ s15 := FEQ_fm Fs15 (by decide) JFEQ_s11
  have JARJ_s15 : ARJ s15 := ARJ_fm Fs15 ⟨by decide +kernel, by decide +kernel, by decide +kernel, by decide +kernel, by decide +kernel, by decide +kernel, by decide +kernel, by decide +kernel⟩ JARJ_s11
  have JALJ_s15 : AEQ 24 229 8 s15 := ALJ_fm Fs15 (by decide) JALJ_s11
  have JMKJ_s15 : MKJ s15 := MKJ_fm Fs15 (by decide +kernel) JMKJ_s11
  have JPMJ_s15 : PMJ s15 := PMJ_fm Fs15 (by decide +kernel) JPMJ_s11
  have ws15_0 : iI s15 0 = iI s11 0 := fm_iq Fs15 rfl
  have ws15_74 : iI s15 74 = iI s11 74 := fm_iq Fs15 rfl
  have ws15_9 : iI s15 9 = iI s11 9 := fm_iq Fs15 rfl
  have ws15_90 : iI s15 90 = iI s11 90 := fm_iq Fs15 rfl
  have ws15_20 : iI s15 20 = iI s11 20 := fm_iq Fs15 rfl
  have ws15_98 : iI s15 98 = iI s11 98 := fm_iq Fs15 rfl
  have ws15_12 : iI s15 12 = iI s11 12 := fm_iq Fs15 rfl
  have ws15_89 : iI s15 89 = iI s11 89 := fm_iq Fs15 rfl
  have wos15 : iO s15 = iO s11 := fm_o Fs15 (by decide)
  show WS k 1810 [(5, .int (Int32.ofInt e12)), (0, .ref q1), (1, .ref (A 0)), (2, .ref (A 179)), (3, .ref (A 517)), (4, .int (Int32.ofInt i))] [.int (Int32.ofInt e16)] (Wd A dT s15) (ce + 3) (sl + 18)
  have hq9 : 0 ≤ sc xs (i + 1) ∧ sc xs (i + 1) ≤ 127 → iC s 21 (sc xs (i + 1)).toNat = iC s11 228 (sc xs (i + 1)).toNat := fun h => aeq_at jPTJ.2.1 (sam_fm Fs11 (by decide +kernel)) (by first | exact oq_c7f4e9c1 h.2 | (clear hps15 hps11; omega) | (clear hps11; omega) | omega)
  rcases hps11 with cc | cc
  ·
    rcases hps15 with mm | mm
    ·
      have rq17 := wre_eq (u_wok jARJ.2.2.2.2.2.1 hU1) (fun j hj => (jPTJ.2.1 j hj).trans ((sam_fm Fs11 (by decide +kernel) : SAM 228 _ _) j).symm) cc.2.2.2.2.2.2.2.2 mm.2.2.2.2.2.2.2.2
      have jb18 : PTJ s15 := ⟨JPMJ_s15, aeq_sam jPTJ.2.1 (sam_ts cc.2.2.2.2.2.2.2.1 (sam_fm Fs15 (by decide +kernel))) (sam_ts (sam_fm Fs11 (by decide +kernel)) mm.2.2.2.2.2.2.2.1), JALJ_s15, JMKJ_s15⟩
      refine z_store X (lv' := [(6, .int (Int32.ofInt e16)), (5, .int (Int32.ofInt e12)), (0, .ref q1), (1, .ref (A 0)), (2, .ref (A 179)), (3, .ref (A 517)), (4, .int (Int32.ofInt i))]) rfl (by decide) (fun _ h => h) (z_goto X (t := 1894) rfl rfl (w_widen (ce' := ce + 29) (sl' := sl + 222) (by first | exact Nat.le_add_right _ _ | exact Nat.add_le_add_left (by decide) _ | omega) (by first | exact Nat.le_add_right _ _ | exact Nat.add_le_add_left (by decide) _ | omega) ?_))
      exact WS_lv (lv := [(0, .ref q1), (1, .ref (A 0)), (2, .ref (A 179)), (3, .ref (A 517)), (4, .int (Int32.ofInt i))]) (List.forall_mem_cons.mpr ⟨(List.Mem.tail _ (List.Mem.tail _ (List.Mem.head _))), (List.forall_mem_cons.mpr ⟨(List.Mem.tail _ (List.Mem.tail _ (List.Mem.tail _ (List.Mem.head _)))), (List.forall_mem_cons.mpr ⟨(List.Mem.tail _ (List.Mem.tail _ (List.Mem.tail _ (List.Mem.tail _ (List.Mem.head _))))), (List.forall_mem_cons.mpr ⟨(List.Mem.tail _ (List.Mem.tail _ (List.Mem.tail _ (List.Mem.tail _ (List.Mem.tail _ (List.Mem.head _)))))), (List.forall_mem_cons.mpr ⟨(List.Mem.tail _ (List.Mem.tail _ (List.Mem.tail _ (List.Mem.tail _ (List.Mem.tail _ (List.Mem.tail _ (List.Mem.head _))))))), (fun q h => absurd h List.not_mem_nil)⟩)⟩)⟩)⟩)⟩) (hk A _ Is15 JRLx_s15 JFEQ_s15 JARJ_s15 jb18 (by first | exact oq_f34933ba ws15_89 ws11_89 p1 b8.1 | omega) (by first | exact oq_d7ce4408 ws15_12 ws11_12 p2 | omega) (by first | exact oq_5bcdc35f ws15_74 ws15_0 ws11_74 ws11_0 p3 | omega) (by first | exact oq_5bcdc35f ws15_90 ws15_9 ws11_90 ws11_9 p4 | omega) (by first | exact oq_5bcdc35f ws15_98 ws15_20 ws11_98 ws11_20 p5 | omega))
    ·
      exfalso
      omega
  ·
    rcases hps15 with mm | mm
    ·
      exfalso
      omega
    ·
      have jb19 : PTJ s15 := ⟨JPMJ_s15, aeq_sam jPTJ.2.1 (sam_ts cc.2 (sam_fm Fs15 (by decide +kernel))) (sam_ts (sam_fm Fs11 (by decide +kernel)) mm.2), JALJ_s15, JMKJ_s15⟩
      refine z_store X (lv' := [(6, .int (Int32.ofInt e16)), (5, .int (Int32.ofInt e12)), (0, .ref q1), (1, .ref (A 0)), (2, .ref (A 179)), (3, .ref (A 517)), (4, .int (Int32.ofInt i))]) rfl (by decide) (fun _ h => h) (z_goto X (t := 1894) rfl rfl (w_widen (ce' := ce + 29) (sl' := sl + 222) (by first | exact Nat.le_add_right _ _ | exact Nat.add_le_add_left (by decide) _ | omega) (by first | exact Nat.le_add_right _ _ | exact Nat.add_le_add_left (by decide) _ | omega) ?_))
      exact WS_lv (lv := [(0, .ref q1), (1, .ref (A 0)), (2, .ref (A 179)), (3, .ref (A 517)), (4, .int (Int32.ofInt i))]) (List.forall_mem_cons.mpr ⟨(List.Mem.tail _ (List.Mem.tail _ (List.Mem.head _))), (List.forall_mem_cons.mpr ⟨(List.Mem.tail _ (List.Mem.tail _ (List.Mem.tail _ (List.Mem.head _)))), (List.forall_mem_cons.mpr ⟨(List.Mem.tail _ (List.Mem.tail _ (List.Mem.tail _ (List.Mem.tail _ (List.Mem.head _))))), (List.forall_mem_cons.mpr ⟨(List.Mem.tail _ (List.Mem.tail _ (List.Mem.tail _ (List.Mem.tail _ (List.Mem.tail _ (List.Mem.head _)))))), (List.forall_mem_cons.mpr ⟨(List.Mem.tail _ (List.Mem.tail _ (List.Mem.tail _ (List.Mem.tail _ (List.Mem.tail _ (List.Mem.tail _ (List.Mem.head _))))))), (fun q h => absurd h List.not_mem_nil)⟩)⟩)⟩)⟩)⟩) (hk A _ Is15 JRLx_s15 JFEQ_s15 JARJ_s15 jb19 (by first | exact oq_f34933ba ws15_89 ws11_89 p1 b8.1 | omega) (by first | exact oq_d7ce4408 ws15_12 ws11_12 p2 | omega) (by first | exact oq_5bcdc35f ws15_74 ws15_0 ws11_74 ws11_0 p3 | omega) (by first | exact oq_5bcdc35f ws15_90 ws15_9 ws11_90 ws11_9 p4 | omega) (by first | exact oq_5bcdc35f ws15_98 ws15_20 ws11_98 ws11_20 p5 | omega))
theorem lc_40 (G : GX l s0 D tys a0 dT) (GR : RS0 s0) (SF : SF0 s0) (GT : TXs0 s0) (GW : TXw0 s0) {k : kx_T} (X : AX k 350 dT) (E : kL k = l ∧ kS0 k = s0 ∧ kD k = D ∧ kR k = room_1) {q1 L : Nat} {xs : Nat → Int32} (S : SX k q1 L xs) (hL : L ≤ 3072) (I : Bd s) (jR : RLx s) (jFEQ : FEQ s) (jARJ : ARJ s) (jPTJ : PTJ s) (p1 : iI s 89 = 1) (p2 : iI s 12 ≤ 8) (p3 : iI s 0 = iI s 74) (p4 : iI s 9 = iI s 90) (p5 : iI s 20 = iI s 98) {i : Int} (hi : 0 ≤ i ∧ i + 6 ≤ (L : Int)) {ce sl : Nat} (hce : ce + 29 ≤ 601024) (hsl : sl + 222 ≤ 7293034) (hk : ∀ (A : Nat → Nat) (t : PS), Bd t → RLx t → FEQ t → ARJ t → PTJ t → iI t 89 = 1 → iI t 12 ≤ 8 → iI t 0 = iI t 74 → iI t 9 = iI t 90 → iI t 20 = iI t 98 → WS k 1894 [(0, .ref q1), (1, .ref (A 0)), (2, .ref (A 179)), (3, .ref (A 517)), (4, .int (Int32.ofInt i))] [] (Wd A dT t) (ce + 29) (sl + 222)) : WS k 1815 [(0, .ref q1), (1, .ref (A 0)), (2, .ref (A 179)), (3, .ref (A 517)), (4, .int (Int32.ofInt i))] [] (Wd A dT s) ce sl := by
  have F : Fm [73] [1460] s s := fm_rf _ _ s
  have b1 := bi_0 I
  have b2 := bi_74 I
  have b3 := bi_9 I
  have b4 := bi_90 I
  have b5 := bi_20 I
  have b6 := bi_98 I
  have b7 := bi_12 I
  have b8 := bi_89 I
  refine z_aload_n X (x := A 0) rfl (List.Mem.tail _ (List.Mem.head _)) (z_aload_n X (x := q1) rfl (List.Mem.head _) (z_load X (x := i) rfl (List.Mem.tail _ (List.Mem.tail _ (List.Mem.tail _ (List.Mem.tail _ (List.Mem.head _))))) (z_const X rfl (z_add X rfl (z_sld X S hL rfl (show 0 ≤ (i + 1) ∧ (i + 1) < (L : Int) by first | exact sx_in hi (by decide) | omega) ?_)))))
  have sr9 : rng (sc xs (i + 1)) := sc_rng
  refine z_aload_n X (x := A 517) rfl (List.Mem.tail _ (List.Mem.tail _ (List.Mem.tail _ (List.Mem.head _)))) (z_callL X (rm := rmN 349) (As := [.ref (A 0), .int (Int32.ofInt (sc xs (i + 1))), .ref (A 517)]) (st := []) rfl (by decide) rfl (by rw [E.1, E.2.1, E.2.2.1]; exact lw_quiet G I (by first | exact And.intro (sr9.1) (sr9.2) | omega)) ⟨by rw [E.2.2.2]; exact (show 9 + 1 ≤ 2048 by decide), by rw [E.2.2.2]; exact (show 8 + (4 + 11) + 166 ≤ 84000 by decide), by rw [E.2.2.2]; exact (show ce + 1 ≤ 601024 by first | exact rmo_1 hce (by decide) | exact rmo_2 hce (by decide) | omega), by rw [E.2.2.2]; exact (show sl + 6 ≤ 7293034 by first | exact rmo_1 hsl (by decide) | exact rmo_2 hsl (by decide) | omega)⟩ (Nat.le_of_ble_eq_true rfl) (fun vv A s10 hA2 hq => ?_) (fun ee A s10 hA2 hq => ?_))
  rotate_left
  · obtain ⟨Is10, Fs10, e11, hv, hrs10, hps10⟩ := hq; cases hv
  obtain ⟨Is10, Fs10, e11, hv, hrs10, hps10⟩ := hq
  cases hv
  rw [← hA2 0 (by decide)]
  rw [← hA2 179 (by decide)]
  rw [← hA2 517 (by decide)]
  have JRLx_s10 : RLx s10 := RLx_fm Fs10 (by decide) jR
  have JFEQ_s10 : FEQ s10 := FEQ_fm Fs10 (by decide) jFEQ
  have JARJ_s10 : ARJ s10 := ARJ_fm Fs10 ⟨by decide +kernel, by decide +kernel, by decide +kernel, by decide +kernel, by decide +kernel, by decide +kernel, by decide +kernel, by decide +kernel⟩ jARJ
  have JPTJ_s10 : PTJ s10 := PTJ_fm Fs10 (by decide +kernel) jPTJ
  have ws10_0 : iI s10 0 = iI s 0 := fm_iq Fs10 rfl
  have ws10_74 : iI s10 74 = iI s 74 := fm_iq Fs10 rfl
  have ws10_9 : iI s10 9 = iI s 9 := fm_iq Fs10 rfl
  have ws10_90 : iI s10 90 = iI s 90 := fm_iq Fs10 rfl
  have ws10_20 : iI s10 20 = iI s 20 := fm_iq Fs10 rfl
  have ws10_98 : iI s10 98 = iI s 98 := fm_iq Fs10 rfl
  have ws10_12 : iI s10 12 = iI s 12 := fm_iq Fs10 rfl
  have ws10_89 : iI s10 89 = iI s 89 := fm_iq Fs10 rfl
  show WS k 1826 [(0, .ref q1), (1, .ref (A 0)), (2, .ref (A 179)), (3, .ref (A 517)), (4, .int (Int32.ofInt i))] [.int (Int32.ofInt e11)] (Wd A dT s10) (ce + 1) (sl + 6)
  refine z_store X (lv' := [(5, .int (Int32.ofInt e11)), (0, .ref q1), (1, .ref (A 0)), (2, .ref (A 179)), (3, .ref (A 517)), (4, .int (Int32.ofInt i))]) rfl (by decide) (fun _ h => h) (z_aload_n X (x := A 179) rfl (List.Mem.tail _ (List.Mem.tail _ (List.Mem.tail _ (List.Mem.head _)))) (z_aload_n X (x := q1) rfl (List.Mem.tail _ (List.Mem.head _)) (z_load X (x := i) rfl (List.Mem.tail _ (List.Mem.tail _ (List.Mem.tail _ (List.Mem.tail _ (List.Mem.tail _ (List.Mem.head _)))))) (z_const X rfl (z_add X rfl (z_sld X S hL rfl (show 0 ≤ (i + 1) ∧ (i + 1) < (L : Int) by first | exact sx_in hi (by decide) | omega) ?_))))))
  have sr12 : rng (sc xs (i + 1)) := sc_rng
  refine z_callV X 179 (rm := rmN 292) (As := [.int (Int32.ofInt (sc xs (i + 1)))]) (st := []) rfl rfl (by decide) rfl (by rw [E.1, E.2.1, E.2.2.1]; exact k_quiet G Is10 (by first | exact ⟨sr12.1, sr12.2⟩ | omega)) ⟨by rw [E.2.2.2]; exact (show 7 + 1 ≤ 2048 from oq_4e6106eb), by rw [E.2.2.2]; exact (show 8 + (4 + 11) + 123 ≤ 84000 from oq_24286ecc), by rw [E.2.2.2]; exact (show (ce + 1) + 0 ≤ 601024 by first | exact oq_398737bb hce | omega), by rw [E.2.2.2]; exact (show (sl + 6) + 0 ≤ 7293034 by first | exact oq_140060cc hsl | omega)⟩ (Nat.le_of_ble_eq_true rfl) (fun vv s13 hq => ?_) (fun ee s13 hq => ?_)
  rotate_left
  · obtain ⟨Is13, Fs13, e14, hv, hrs13, hps13⟩ := hq; cases hv
  obtain ⟨Is13, Fs13, e14, hv, hrs13, hps13⟩ := hq
  cases hv
  have JRLx_s13 : RLx s13 := RLx_fm Fs13 (by decide) JRLx_s10
  have JFEQ_s13 : FEQ s13 := FEQ_fm Fs13 (by decide) JFEQ_s10
  have JARJ_s13 : ARJ s13 := ARJ_fm Fs13 ⟨by decide +kernel, by decide +kernel, by decide +kernel, by decide +kernel, by decide +kernel, by decide +kernel, by decide +kernel, by decide +kernel⟩ JARJ_s10
  have JPTJ_s13 : PTJ s13 := PTJ_fm Fs13 (by decide +kernel) JPTJ_s10
  have ws13_0 : iI s13 0 = iI s10 0 := fm_iq Fs13 rfl
  have ws13_74 : iI s13 74 = iI s10 74 := fm_iq Fs13 rfl
  have ws13_9 : iI s13 9 = iI s10 9 := fm_iq Fs13 rfl
  have ws13_90 : iI s13 90 = iI s10 90 := fm_iq Fs13 rfl
  have ws13_20 : iI s13 20 = iI s10 20 := fm_iq Fs13 rfl
  have ws13_98 : iI s13 98 = iI s10 98 := fm_iq Fs13 rfl
  have ws13_12 : iI s13 12 = iI s10 12 := fm_iq Fs13 rfl
  have ws13_89 : iI s13 89 = iI s10 89 := fm_iq Fs13 rfl
  have wos13 : iO s13 = iO s10 := fm_o Fs13 (by decide)
  show WS k 1838 [(5, .int (Int32.ofInt e11)), (0, .ref q1), (1, .ref (A 0)), (2, .ref (A 179)), (3, .ref (A 517)), (4, .int (Int32.ofInt i))] [.int (Int32.ofInt e14)] (Wd A dT s13) (ce + 1) (sl + 6)
  refine z_store X (lv' := [(6, .int (Int32.ofInt e14)), (5, .int (Int32.ofInt e11)), (0, .ref q1), (1, .ref (A 0)), (2, .ref (A 179)), (3, .ref (A 517)), (4, .int (Int32.ofInt i))]) rfl (by decide) (fun _ h => h) (z_goto X (t := 1894) rfl rfl (w_widen (ce' := ce + 29) (sl' := sl + 222) (by first | exact Nat.le_add_right _ _ | exact Nat.add_le_add_left (by decide) _ | omega) (by first | exact Nat.le_add_right _ _ | exact Nat.add_le_add_left (by decide) _ | omega) ?_))
  exact WS_lv (lv := [(0, .ref q1), (1, .ref (A 0)), (2, .ref (A 179)), (3, .ref (A 517)), (4, .int (Int32.ofInt i))]) (List.forall_mem_cons.mpr ⟨(List.Mem.tail _ (List.Mem.tail _ (List.Mem.head _))), (List.forall_mem_cons.mpr ⟨(List.Mem.tail _ (List.Mem.tail _ (List.Mem.tail _ (List.Mem.head _)))), (List.forall_mem_cons.mpr ⟨(List.Mem.tail _ (List.Mem.tail _ (List.Mem.tail _ (List.Mem.tail _ (List.Mem.head _))))), (List.forall_mem_cons.mpr ⟨(List.Mem.tail _ (List.Mem.tail _ (List.Mem.tail _ (List.Mem.tail _ (List.Mem.tail _ (List.Mem.head _)))))), (List.forall_mem_cons.mpr ⟨(List.Mem.tail _ (List.Mem.tail _ (List.Mem.tail _ (List.Mem.tail _ (List.Mem.tail _ (List.Mem.tail _ (List.Mem.head _))))))), (fun q h => absurd h List.not_mem_nil)⟩)⟩)⟩)⟩)⟩) (hk A _ Is13 JRLx_s13 JFEQ_s13 JARJ_s13 JPTJ_s13 (by first | exact oq_f34933ba ws13_89 ws10_89 p1 b8.1 | omega) (by first | exact oq_d7ce4408 ws13_12 ws10_12 p2 | omega) (by first | exact oq_5bcdc35f ws13_74 ws13_0 ws10_74 ws10_0 p3 | omega) (by first | exact oq_5bcdc35f ws13_90 ws13_9 ws10_90 ws10_9 p4 | omega) (by first | exact oq_5bcdc35f ws13_98 ws13_20 ws10_98 ws10_20 p5 | omega))
theorem lc_41 (G : GX l s0 D tys a0 dT) (GR : RS0 s0) (SF : SF0 s0) (GT : TXs0 s0) (GW : TXw0 s0) {k : kx_T} (X : AX k 350 dT) (E : kL k = l ∧ kS0 k = s0 ∧ kD k = D ∧ kR k = room_1) {q1 L : Nat} {xs : Nat → Int32} (S : SX k q1 L xs) (hL : L ≤ 3072) (I : Bd s) (jR : RLx s) (jFEQ : FEQ s) (jARJ : ARJ s) (jPTJ : PTJ s) (p1 : iI s 89 = 1) (p2 : iI s 12 ≤ 8) (p3 : iI s 0 = iI s 74) (p4 : iI s 9 = iI s 90) (p5 : iI s 20 = iI s 98) {i : Int} (hi : 0 ≤ i ∧ i + 6 ≤ (L : Int)) {ce sl : Nat} (hce : ce + 29 ≤ 601024) (hsl : sl + 222 ≤ 7293034) (hk : ∀ (A : Nat → Nat) (t : PS), Bd t → RLx t → FEQ t → ARJ t → PTJ t → iI t 89 = 1 → iI t 12 ≤ 8 → iI t 0 = iI t 74 → iI t 9 = iI t 90 → iI t 20 = iI t 98 → WS k 1894 [(0, .ref q1), (1, .ref (A 0)), (2, .ref (A 179)), (3, .ref (A 517)), (4, .int (Int32.ofInt i))] [] (Wd A dT t) (ce + 29) (sl + 222)) : WS k 1843 [(0, .ref q1), (1, .ref (A 0)), (2, .ref (A 179)), (3, .ref (A 517)), (4, .int (Int32.ofInt i))] [] (Wd A dT s) ce sl := by
  have F : Fm [20, 73, 98] [25, 241, 242, 243, 244] s s := fm_rf _ _ s
  have b1 := bi_0 I
  have b2 := bi_74 I
  have b3 := bi_9 I
  have b4 := bi_90 I
  have b5 := bi_20 I
  have b6 := bi_98 I
  have b7 := bi_12 I
  have b8 := bi_89 I
  refine z_aload_n X (x := A 0) rfl (List.Mem.tail _ (List.Mem.head _)) (z_callV X 0 (rm := rmN 176) (As := []) (st := []) rfl rfl (by decide) rfl (by rw [E.1, E.2.1, E.2.2.1]; exact cs_mark6 G I ) ⟨by rw [E.2.2.2]; exact (show 7 + 1 ≤ 2048 from oq_4e6106eb), by rw [E.2.2.2]; exact (show 8 + (1 + 11) + 120 ≤ 84000 from oq_23aa4b49), by rw [E.2.2.2]; exact (show ce + 0 ≤ 601024 by first | exact oq_349a7c72 hce | omega), by rw [E.2.2.2]; exact (show sl + 0 ≤ 7293034 by first | exact oq_9a8748d4 hsl | omega)⟩ (Nat.le_of_ble_eq_true rfl) (fun vv s9 hq => ?_) (fun ee s9 hq => ?_))
  rotate_left
  · obtain ⟨Is9, Fs9, e10, hv, hrs9, hps9⟩ := hq; cases hv
  obtain ⟨Is9, Fs9, e10, hv, hrs9, hps9⟩ := hq
  cases hv
  have JRLx_s9 : RLx s9 := RLx_fm Fs9 (by decide) jR
  have JFEQ_s9 : FEQ s9 := FEQ_fm Fs9 (by decide) jFEQ
  have JARJ_s9 : ARJ s9 := ARJ_fm Fs9 ⟨by decide +kernel, by decide +kernel, by decide +kernel, by decide +kernel, by decide +kernel, by decide +kernel, by decide +kernel, by decide +kernel⟩ jARJ
  have JPMJ_s9 : PMJ s9 := PMJ_fm Fs9 (by decide +kernel) jPTJ.1
  have JAPJ_s9 : AEQ 21 228 128 s9 := APJ_fm Fs9 (by decide) jPTJ.2.1
  have JALJ_s9 : AEQ 24 229 8 s9 := ALJ_fm Fs9 (by decide) jPTJ.2.2.1
  have ws9_0 : iI s9 0 = iI s 0 := fm_iq Fs9 rfl
  have ws9_74 : iI s9 74 = iI s 74 := fm_iq Fs9 rfl
  have ws9_9 : iI s9 9 = iI s 9 := fm_iq Fs9 rfl
  have ws9_90 : iI s9 90 = iI s 90 := fm_iq Fs9 rfl
  have b11 := bi_20 Is9
  have ws9_98 : iI s9 98 = iI s 98 := fm_iq Fs9 rfl
  have ws9_12 : iI s9 12 = iI s 12 := fm_iq Fs9 rfl
  have ws9_89 : iI s9 89 = iI s 89 := fm_iq Fs9 rfl
  have wos9 : iO s9 = iO s := fm_o Fs9 (by decide)
  show WS k 1847 [(0, .ref q1), (1, .ref (A 0)), (2, .ref (A 179)), (3, .ref (A 517)), (4, .int (Int32.ofInt i))] [.int (Int32.ofInt e10)] (Wd A dT s9) ce sl
  refine w_pop X.1 (ax_d X (show cdA 350 1847 = some (.pop, 1, 0, 0, 0) from rfl)) rfl (z_aload_n X (x := A 179) rfl (List.Mem.tail _ (List.Mem.tail _ (List.Mem.head _))) (z_callV X 179 (rm := rmN 293) (As := []) (st := []) rfl rfl (by decide) rfl (by rw [E.1, E.2.1, E.2.2.1]; exact k_mark6 G Is9 ) ⟨by rw [E.2.2.2]; exact (show 6 + 1 ≤ 2048 from oq_4d34cb53), by rw [E.2.2.2]; exact (show 8 + (2 + 11) + 100 ≤ 84000 from oq_8731b8c0), by rw [E.2.2.2]; exact (show ce + 0 ≤ 601024 by first | exact oq_349a7c72 hce | (clear hps9; omega) | omega), by rw [E.2.2.2]; exact (show sl + 0 ≤ 7293034 by first | exact oq_9a8748d4 hsl | (clear hps9; omega) | omega)⟩ (Nat.le_of_ble_eq_true rfl) (fun vv s12 hq => ?_) (fun ee s12 hq => ?_)))
  rotate_left
  · obtain ⟨Is12, Fs12, e13, hv, hrs12, hps12⟩ := hq; cases hv
  obtain ⟨Is12, Fs12, e13, hv, hrs12, hps12⟩ := hq
  cases hv
  have JRLx_s12 : RLx s12 := RLx_fm Fs12 (by decide) JRLx_s9
  have JFEQ_s12 : FEQ s12 := FEQ_fm Fs12 (by decide) JFEQ_s9
  have JARJ_s12 : ARJ s12 := ARJ_fm Fs12 ⟨by decide +kernel, by decide +kernel, by decide +kernel, by decide +kernel, by decide +kernel, by decide +kernel, by decide +kernel, by decide +kernel⟩ JARJ_s9
  have JPMJ_s12 : PMJ s12 := PMJ_fm Fs12 (by decide +kernel) JPMJ_s9
  have JAPJ_s12 : AEQ 21 228 128 s12 := APJ_fm Fs12 (by decide) JAPJ_s9
  have JALJ_s12 : AEQ 24 229 8 s12 := ALJ_fm Fs12 (by decide) JALJ_s9
  have ws12_0 : iI s12 0 = iI s9 0 := fm_iq Fs12 rfl
  have ws12_74 : iI s12 74 = iI s9 74 := fm_iq Fs12 rfl
  have ws12_9 : iI s12 9 = iI s9 9 := fm_iq Fs12 rfl
  have ws12_90 : iI s12 90 = iI s9 90 := fm_iq Fs12 rfl
  have ws12_20 : iI s12 20 = iI s9 20 := fm_iq Fs12 rfl
  have b14 := bi_98 Is12
  have ws12_12 : iI s12 12 = iI s9 12 := fm_iq Fs12 rfl
  have ws12_89 : iI s12 89 = iI s9 89 := fm_iq Fs12 rfl
  have wos12 : iO s12 = iO s9 := fm_o Fs12 (by decide)
  show WS k 1852 [(0, .ref q1), (1, .ref (A 0)), (2, .ref (A 179)), (3, .ref (A 517)), (4, .int (Int32.ofInt i))] [.int (Int32.ofInt e13)] (Wd A dT s12) ce sl
  rcases hps9 with cc | cc
  ·
    rcases hps12 with mm | mm
    ·
      have jb15 : PTJ s12 := ⟨JPMJ_s12, JAPJ_s12, JALJ_s12, mkj_up jPTJ.2.2.2 jPTJ.2.1 cc.2.2.2 (by have z := mm.2.2.2.2; rw [show iI s9 98 = iI s 20 by first | exact oq_a9591169 ws9_98 p5 | (clear hps12 hps9; omega) | (clear hps9; omega) | omega] at z; exact mkp_t z (sam_fm Fs9 (by decide +kernel)) (fun k j hk => fm_c Fs9 ((by decide +kernel : ∀ i, i < 4 → 241 + i ∉ _) k hk))) (sam_fm Fs12 (by decide +kernel)) (by first | exact oq_a22cec24 cc.2.1 ws12_20 | (clear hps12 hps9; omega) | (clear hps9; omega) | omega) (by first | exact And.intro (b5.1) (cc.1) | (clear hps12 hps9; omega) | (clear hps9; omega) | omega)⟩
      refine w_pop X.1 (ax_d X (show cdA 350 1852 = some (.pop, 1, 0, 0, 0) from rfl)) rfl (z_goto X (t := 1894) rfl rfl (w_widen (ce' := ce + 29) (sl' := sl + 222) (by first | exact Nat.le_add_right _ _ | exact Nat.add_le_add_left (by decide) _ | omega) (by first | exact Nat.le_add_right _ _ | exact Nat.add_le_add_left (by decide) _ | omega) ?_))
      exact WS_lv (lv := [(0, .ref q1), (1, .ref (A 0)), (2, .ref (A 179)), (3, .ref (A 517)), (4, .int (Int32.ofInt i))]) (List.forall_mem_cons.mpr ⟨(List.Mem.head _), (List.forall_mem_cons.mpr ⟨(List.Mem.tail _ (List.Mem.head _)), (List.forall_mem_cons.mpr ⟨(List.Mem.tail _ (List.Mem.tail _ (List.Mem.head _))), (List.forall_mem_cons.mpr ⟨(List.Mem.tail _ (List.Mem.tail _ (List.Mem.tail _ (List.Mem.head _)))), (List.forall_mem_cons.mpr ⟨(List.Mem.tail _ (List.Mem.tail _ (List.Mem.tail _ (List.Mem.tail _ (List.Mem.head _))))), (fun q h => absurd h List.not_mem_nil)⟩)⟩)⟩)⟩)⟩) (hk A _ Is12 JRLx_s12 JFEQ_s12 JARJ_s12 jb15 (by first | exact oq_f34933ba ws12_89 ws9_89 p1 b8.1 | omega) (by first | exact oq_d7ce4408 ws12_12 ws9_12 p2 | omega) (by first | exact oq_5bcdc35f ws12_74 ws12_0 ws9_74 ws9_0 p3 | omega) (by first | exact oq_5bcdc35f ws12_90 ws12_9 ws9_90 ws9_9 p4 | omega) (by first | exact oq_3f0f2395 mm.2.1 cc.2.1 ws12_20 ws9_98 p5 | (clear hps12 hps9; omega) | (clear hps9; omega) | omega))
    ·
      exfalso
      omega
  ·
    rcases hps12 with mm | mm
    ·
      exfalso
      omega
    ·
      have jb16 : PTJ s12 := ⟨JPMJ_s12, JAPJ_s12, JALJ_s12, mkj_s jPTJ.2.2.2 (by first | exact And.intro (oq_fcfa6955 cc.2.1 ws12_20) (oq_41f8e794 cc.2.1 cc.1 ws12_20) | (clear hps12 hps9; omega) | (clear hps9; omega) | omega) (sam_ts cc.2.2.2 (sam_fm Fs12 (by decide +kernel))) (fun k j hk => (mm.2.2.2.2 k j hk).trans ((fun k j hk => fm_c Fs9 ((by decide +kernel : ∀ i, i < 4 → 241 + i ∉ _) k hk)) k j hk))⟩
      refine w_pop X.1 (ax_d X (show cdA 350 1852 = some (.pop, 1, 0, 0, 0) from rfl)) rfl (z_goto X (t := 1894) rfl rfl (w_widen (ce' := ce + 29) (sl' := sl + 222) (by first | exact Nat.le_add_right _ _ | exact Nat.add_le_add_left (by decide) _ | omega) (by first | exact Nat.le_add_right _ _ | exact Nat.add_le_add_left (by decide) _ | omega) ?_))
      exact WS_lv (lv := [(0, .ref q1), (1, .ref (A 0)), (2, .ref (A 179)), (3, .ref (A 517)), (4, .int (Int32.ofInt i))]) (List.forall_mem_cons.mpr ⟨(List.Mem.head _), (List.forall_mem_cons.mpr ⟨(List.Mem.tail _ (List.Mem.head _)), (List.forall_mem_cons.mpr ⟨(List.Mem.tail _ (List.Mem.tail _ (List.Mem.head _))), (List.forall_mem_cons.mpr ⟨(List.Mem.tail _ (List.Mem.tail _ (List.Mem.tail _ (List.Mem.head _)))), (List.forall_mem_cons.mpr ⟨(List.Mem.tail _ (List.Mem.tail _ (List.Mem.tail _ (List.Mem.tail _ (List.Mem.head _))))), (fun q h => absurd h List.not_mem_nil)⟩)⟩)⟩)⟩)⟩) (hk A _ Is12 JRLx_s12 JFEQ_s12 JARJ_s12 jb16 (by first | exact oq_f34933ba ws12_89 ws9_89 p1 b8.1 | omega) (by first | exact oq_d7ce4408 ws12_12 ws9_12 p2 | omega) (by first | exact oq_5bcdc35f ws12_74 ws12_0 ws9_74 ws9_0 p3 | omega) (by first | exact oq_5bcdc35f ws12_90 ws12_9 ws9_90 ws9_9 p4 | omega) (by first | (clear hps12 hps9; omega) | (clear hps9; omega) | omega))
theorem lc_42 (G : GX l s0 D tys a0 dT) (GR : RS0 s0) (SF : SF0 s0) (GT : TXs0 s0) (GW : TXw0 s0) {k : kx_T} (X : AX k 350 dT) (E : kL k = l ∧ kS0 k = s0 ∧ kD k = D ∧ kR k = room_1) {q1 L : Nat} {xs : Nat → Int32} (S : SX k q1 L xs) (hL : L ≤ 3072) (I : Bd s) (jR : RLx s) (jFEQ : FEQ s) (jARJ : ARJ s) (jPTJ : PTJ s) (p1 : iI s 89 = 1) (p2 : iI s 12 ≤ 8) (p3 : iI s 0 = iI s 74) (p4 : iI s 9 = iI s 90) (p5 : iI s 20 = iI s 98) {i : Int} (hi : 0 ≤ i ∧ i + 6 ≤ (L : Int)) {ce sl : Nat} (hce : ce + 29 ≤ 601024) (hsl : sl + 222 ≤ 7293034) (hk : ∀ (A : Nat → Nat) (t : PS), Bd t → RLx t → FEQ t → ARJ t → PTJ t → iI t 89 = 1 → iI t 12 ≤ 8 → iI t 0 = iI t 74 → iI t 9 = iI t 90 → iI t 20 = iI t 98 → WS k 1894 [(0, .ref q1), (1, .ref (A 0)), (2, .ref (A 179)), (3, .ref (A 517)), (4, .int (Int32.ofInt i))] [] (Wd A dT t) (ce + 29) (sl + 222)) : WS k 1856 [(0, .ref q1), (1, .ref (A 0)), (2, .ref (A 179)), (3, .ref (A 517)), (4, .int (Int32.ofInt i))] [] (Wd A dT s) ce sl := by
  have F : Fm [20, 73, 98] [21, 1022, 1023, 228] s s := fm_rf _ _ s
  have b1 := bi_0 I
  have b2 := bi_74 I
  have b3 := bi_9 I
  have b4 := bi_90 I
  have b5 := bi_20 I
  have b6 := bi_98 I
  have b7 := bi_12 I
  have b8 := bi_89 I
  refine z_aload_n X (x := A 0) rfl (List.Mem.tail _ (List.Mem.head _)) (z_callV X 0 (rm := rmN 177) (As := []) (st := []) rfl rfl (by decide) rfl (by rw [E.1, E.2.1, E.2.2.1]; exact cs_back6 G I jPTJ.1 ) ⟨by rw [E.2.2.2]; exact (show 8 + 1 ≤ 2048 from oq_5bf2829b), by rw [E.2.2.2]; exact (show 8 + (1 + 11) + 147 ≤ 84000 from oq_6fd3db4b), by rw [E.2.2.2]; exact (show ce + 0 ≤ 601024 by first | exact oq_349a7c72 hce | omega), by rw [E.2.2.2]; exact (show sl + 0 ≤ 7293034 by first | exact oq_9a8748d4 hsl | omega)⟩ (Nat.le_of_ble_eq_true rfl) (fun vv s9 hq => ?_) (fun ee s9 hq => ?_))
  rotate_left
  · obtain ⟨Is9, Fs9, JPMJ_s9, e10, hv, hrs9, hps9⟩ := hq; cases hv
  obtain ⟨Is9, Fs9, JPMJ_s9, e10, hv, hrs9, hps9⟩ := hq
  cases hv
  have JRLx_s9 : RLx s9 := RLx_fm Fs9 (by decide) jR
  have JFEQ_s9 : FEQ s9 := FEQ_fm Fs9 (by decide) jFEQ
  have JARJ_s9 : ARJ s9 := ARJ_fm Fs9 ⟨by decide +kernel, by decide +kernel, by decide +kernel, by decide +kernel, by decide +kernel, by decide +kernel, by decide +kernel, by decide +kernel⟩ jARJ
  have JALJ_s9 : AEQ 24 229 8 s9 := ALJ_fm Fs9 (by decide) jPTJ.2.2.1
  have ws9_0 : iI s9 0 = iI s 0 := fm_iq Fs9 rfl
  have ws9_74 : iI s9 74 = iI s 74 := fm_iq Fs9 rfl
  have ws9_9 : iI s9 9 = iI s 9 := fm_iq Fs9 rfl
  have ws9_90 : iI s9 90 = iI s 90 := fm_iq Fs9 rfl
  have b11 := bi_20 Is9
  have ws9_98 : iI s9 98 = iI s 98 := fm_iq Fs9 rfl
  have ws9_12 : iI s9 12 = iI s 12 := fm_iq Fs9 rfl
  have ws9_89 : iI s9 89 = iI s 89 := fm_iq Fs9 rfl
  have wos9 : iO s9 = iO s := fm_o Fs9 (by decide)
  show WS k 1860 [(0, .ref q1), (1, .ref (A 0)), (2, .ref (A 179)), (3, .ref (A 517)), (4, .int (Int32.ofInt i))] [.int (Int32.ofInt e10)] (Wd A dT s9) ce sl
  refine w_pop X.1 (ax_d X (show cdA 350 1860 = some (.pop, 1, 0, 0, 0) from rfl)) rfl (z_aload_n X (x := A 179) rfl (List.Mem.tail _ (List.Mem.tail _ (List.Mem.head _))) (z_callV X 179 (rm := rmN 294) (As := []) (st := []) rfl rfl (by decide) rfl (by rw [E.1, E.2.1, E.2.2.1]; exact k_back6 G Is9 ) ⟨by rw [E.2.2.2]; exact (show 6 + 1 ≤ 2048 from oq_4d34cb53), by rw [E.2.2.2]; exact (show 8 + (2 + 11) + 100 ≤ 84000 from oq_8731b8c0), by rw [E.2.2.2]; exact (show ce + 0 ≤ 601024 by first | exact oq_349a7c72 hce | (clear hps9; omega) | omega), by rw [E.2.2.2]; exact (show sl + 0 ≤ 7293034 by first | exact oq_9a8748d4 hsl | (clear hps9; omega) | omega)⟩ (Nat.le_of_ble_eq_true rfl) (fun vv s12 hq => ?_) (fun ee s12 hq => ?_)))
  rotate_left
  · obtain ⟨Is12, Fs12, e13, hv, hrs12, hps12⟩ := hq; cases hv
  obtain ⟨Is12, Fs12, e13, hv, hrs12, hps12⟩ := hq
  cases hv
  have JRLx_s12 : RLx s12 := RLx_fm Fs12 (by decide) JRLx_s9
  have JFEQ_s12 : FEQ s12 := FEQ_fm Fs12 (by decide) JFEQ_s9
  have JARJ_s12 : ARJ s12 := ARJ_fm Fs12 ⟨by decide +kernel, by decide +kernel, by decide +kernel, by decide +kernel, by decide +kernel, by decide +kernel, by decide +kernel, by decide +kernel⟩ JARJ_s9
  have JPMJ_s12 : PMJ s12 := PMJ_fm Fs12 (by decide +kernel) JPMJ_s9
  have JALJ_s12 : AEQ 24 229 8 s12 := ALJ_fm Fs12 (by decide) JALJ_s9
  have ws12_0 : iI s12 0 = iI s9 0 := fm_iq Fs12 rfl
  have ws12_74 : iI s12 74 = iI s9 74 := fm_iq Fs12 rfl
  have ws12_9 : iI s12 9 = iI s9 9 := fm_iq Fs12 rfl
  have ws12_90 : iI s12 90 = iI s9 90 := fm_iq Fs12 rfl
  have ws12_20 : iI s12 20 = iI s9 20 := fm_iq Fs12 rfl
  have b14 := bi_98 Is12
  have ws12_12 : iI s12 12 = iI s9 12 := fm_iq Fs12 rfl
  have ws12_89 : iI s12 89 = iI s9 89 := fm_iq Fs12 rfl
  have wos12 : iO s12 = iO s9 := fm_o Fs12 (by decide)
  show WS k 1865 [(0, .ref q1), (1, .ref (A 0)), (2, .ref (A 179)), (3, .ref (A 517)), (4, .int (Int32.ofInt i))] [.int (Int32.ofInt e13)] (Wd A dT s12) ce sl
  rcases hps9 with cc | cc
  ·
    rcases hps12 with mm | mm
    ·
      have jb15 : PTJ s12 := ⟨JPMJ_s12, apj_bkq jPTJ.2.2.2 (by first | exact cc.1 | (clear hps12 hps9; omega) | (clear hps9; omega) | omega) cc.2.2.2 mm.2.2.2.2 (by first | exact oq_a9591169 ws9_98 p5 | (clear hps12 hps9; omega) | (clear hps9; omega) | omega) (fun k j hk => fm_c Fs9 ((by decide +kernel : ∀ i, i < 4 → 241 + i ∉ _) k hk)) (sam_fm Fs12 (by decide +kernel)), JALJ_s12, mkj_s jPTJ.2.2.2 (by first | exact And.intro (oq_e4757433 ws12_20 b11.1) (oq_14f9fce7 cc.2.1 ws12_20) | (clear hps12 hps9; omega) | (clear hps9; omega) | omega) (sam_ts (sam_fm Fs9 (by decide +kernel) : SAM 25 _ _) (sam_fm Fs12 (by decide +kernel))) (fun k j hk => ((fun k j hk => fm_c Fs12 ((by decide +kernel : ∀ i, i < 4 → 241 + i ∉ _) k hk)) k j hk).trans ((fun k j hk => fm_c Fs9 ((by decide +kernel : ∀ i, i < 4 → 241 + i ∉ _) k hk)) k j hk))⟩
      refine w_pop X.1 (ax_d X (show cdA 350 1865 = some (.pop, 1, 0, 0, 0) from rfl)) rfl (z_goto X (t := 1894) rfl rfl (w_widen (ce' := ce + 29) (sl' := sl + 222) (by first | exact Nat.le_add_right _ _ | exact Nat.add_le_add_left (by decide) _ | omega) (by first | exact Nat.le_add_right _ _ | exact Nat.add_le_add_left (by decide) _ | omega) ?_))
      exact WS_lv (lv := [(0, .ref q1), (1, .ref (A 0)), (2, .ref (A 179)), (3, .ref (A 517)), (4, .int (Int32.ofInt i))]) (List.forall_mem_cons.mpr ⟨(List.Mem.head _), (List.forall_mem_cons.mpr ⟨(List.Mem.tail _ (List.Mem.head _)), (List.forall_mem_cons.mpr ⟨(List.Mem.tail _ (List.Mem.tail _ (List.Mem.head _))), (List.forall_mem_cons.mpr ⟨(List.Mem.tail _ (List.Mem.tail _ (List.Mem.tail _ (List.Mem.head _)))), (List.forall_mem_cons.mpr ⟨(List.Mem.tail _ (List.Mem.tail _ (List.Mem.tail _ (List.Mem.tail _ (List.Mem.head _))))), (fun q h => absurd h List.not_mem_nil)⟩)⟩)⟩)⟩)⟩) (hk A _ Is12 JRLx_s12 JFEQ_s12 JARJ_s12 jb15 (by first | exact oq_f34933ba ws12_89 ws9_89 p1 b8.1 | omega) (by first | exact oq_d7ce4408 ws12_12 ws9_12 p2 | omega) (by first | exact oq_5bcdc35f ws12_74 ws12_0 ws9_74 ws9_0 p3 | omega) (by first | exact oq_5bcdc35f ws12_90 ws12_9 ws9_90 ws9_9 p4 | omega) (by first | exact oq_4cf15eca mm.2.1 cc.2.1 ws12_20 ws9_98 p5 | (clear hps12 hps9; omega) | (clear hps9; omega) | omega))
    ·
      exfalso
      omega
  ·
    rcases hps12 with mm | mm
    ·
      exfalso
      omega
    ·
      have jb16 : PTJ s12 := ⟨JPMJ_s12, aeq_sam jPTJ.2.1 (sam_ts cc.2.2.2 (sam_fm Fs12 (by decide +kernel))) (sam_ts (sam_fm Fs9 (by decide +kernel)) mm.2.2.2.2), JALJ_s12, mkj_s jPTJ.2.2.2 (by first | exact And.intro (oq_40993893 cc.2.1 ws12_20) (oq_633e93bb cc.2.1 cc.1 ws12_20) | (clear hps12 hps9; omega) | (clear hps9; omega) | omega) (sam_ts (sam_fm Fs9 (by decide +kernel) : SAM 25 _ _) (sam_fm Fs12 (by decide +kernel))) (fun k j hk => ((fun k j hk => fm_c Fs12 ((by decide +kernel : ∀ i, i < 4 → 241 + i ∉ _) k hk)) k j hk).trans ((fun k j hk => fm_c Fs9 ((by decide +kernel : ∀ i, i < 4 → 241 + i ∉ _) k hk)) k j hk))⟩
      refine w_pop X.1 (ax_d X (show cdA 350 1865 = some (.pop, 1, 0, 0, 0) from rfl)) rfl (z_goto X (t := 1894) rfl rfl (w_widen (ce' := ce + 29) (sl' := sl + 222) (by first | exact Nat.le_add_right _ _ | exact Nat.add_le_add_left (by decide) _ | omega) (by first | exact Nat.le_add_right _ _ | exact Nat.add_le_add_left (by decide) _ | omega) ?_))
      exact WS_lv (lv := [(0, .ref q1), (1, .ref (A 0)), (2, .ref (A 179)), (3, .ref (A 517)), (4, .int (Int32.ofInt i))]) (List.forall_mem_cons.mpr ⟨(List.Mem.head _), (List.forall_mem_cons.mpr ⟨(List.Mem.tail _ (List.Mem.head _)), (List.forall_mem_cons.mpr ⟨(List.Mem.tail _ (List.Mem.tail _ (List.Mem.head _))), (List.forall_mem_cons.mpr ⟨(List.Mem.tail _ (List.Mem.tail _ (List.Mem.tail _ (List.Mem.head _)))), (List.forall_mem_cons.mpr ⟨(List.Mem.tail _ (List.Mem.tail _ (List.Mem.tail _ (List.Mem.tail _ (List.Mem.head _))))), (fun q h => absurd h List.not_mem_nil)⟩)⟩)⟩)⟩)⟩) (hk A _ Is12 JRLx_s12 JFEQ_s12 JARJ_s12 jb16 (by first | exact oq_f34933ba ws12_89 ws9_89 p1 b8.1 | omega) (by first | exact oq_d7ce4408 ws12_12 ws9_12 p2 | omega) (by first | exact oq_5bcdc35f ws12_74 ws12_0 ws9_74 ws9_0 p3 | omega) (by first | exact oq_5bcdc35f ws12_90 ws12_9 ws9_90 ws9_9 p4 | omega) (by first | exact oq_2b80f052 mm.2.1 cc.2.1 ws12_20 | (clear hps12 hps9; omega) | (clear hps9; omega) | omega))
theorem lc_43 (G : GX l s0 D tys a0 dT) (GR : RS0 s0) (SF : SF0 s0) (GT : TXs0 s0) (GW : TXw0 s0) {k : kx_T} (X : AX k 350 dT) (E : kL k = l ∧ kS0 k = s0 ∧ kD k = D ∧ kR k = room_1) {q1 L : Nat} {xs : Nat → Int32} (S : SX k q1 L xs) (hL : L ≤ 3072) (I : Bd s) (jR : RLx s) (jFEQ : FEQ s) (jARJ : ARJ s) (jPTJ : PTJ s) (p1 : iI s 89 = 1) (p2 : iI s 12 ≤ 8) (p3 : iI s 0 = iI s 74) (p4 : iI s 9 = iI s 90) (p5 : iI s 20 = iI s 98) {i : Int} (hi : 0 ≤ i ∧ i + 6 ≤ (L : Int)) {ce sl : Nat} (hce : ce + 29 ≤ 601024) (hsl : sl + 222 ≤ 7293034) (hk : ∀ (A : Nat → Nat) (t : PS), Bd t → RLx t → FEQ t → ARJ t → PTJ t → iI t 89 = 1 → iI t 12 ≤ 8 → iI t 0 = iI t 74 → iI t 9 = iI t 90 → iI t 20 = iI t 98 → WS k 1894 [(0, .ref q1), (1, .ref (A 0)), (2, .ref (A 179)), (3, .ref (A 517)), (4, .int (Int32.ofInt i))] [] (Wd A dT t) (ce + 29) (sl + 222)) : WS k 1869 [(0, .ref q1), (1, .ref (A 0)), (2, .ref (A 179)), (3, .ref (A 517)), (4, .int (Int32.ofInt i))] [] (Wd A dT s) ce sl := by
  have F : Fm [73] [] s s := fm_rf _ _ s
  have b1 := bi_0 I
  have b2 := bi_74 I
  have b3 := bi_9 I
  have b4 := bi_90 I
  have b5 := bi_20 I
  have b6 := bi_98 I
  have b7 := bi_12 I
  have b8 := bi_89 I
  refine z_aload_n X (x := A 0) rfl (List.Mem.tail _ (List.Mem.head _)) (z_aload_n X (x := q1) rfl (List.Mem.head _) (z_load X (x := i) rfl (List.Mem.tail _ (List.Mem.tail _ (List.Mem.tail _ (List.Mem.tail _ (List.Mem.head _))))) (z_const X rfl (z_add X rfl (z_sld X S hL rfl (show 0 ≤ (i + 1) ∧ (i + 1) < (L : Int) by first | exact sx_in hi (by decide) | omega) ?_)))))
  have sr9 : rng (sc xs (i + 1)) := sc_rng
  refine z_callV X 0 (rm := rmN 178) (As := [.int (Int32.ofInt (sc xs (i + 1)))]) (st := []) rfl rfl (by decide) rfl (by rw [E.1, E.2.1, E.2.2.1]; exact cs_count G I (by first | exact ⟨sr9.1, sr9.2⟩ | omega)) ⟨by rw [E.2.2.2]; exact (show 8 + 1 ≤ 2048 from oq_5bf2829b), by rw [E.2.2.2]; exact (show 8 + (2 + 11) + 143 ≤ 84000 from oq_ca72eefc), by rw [E.2.2.2]; exact (show ce + 0 ≤ 601024 by first | exact oq_349a7c72 hce | omega), by rw [E.2.2.2]; exact (show sl + 0 ≤ 7293034 by first | exact oq_9a8748d4 hsl | omega)⟩ (Nat.le_of_ble_eq_true rfl) (fun vv s10 hq => ?_) (fun ee s10 hq => ?_)
  rotate_left
  · obtain ⟨Is10, Fs10, e11, hv, hrs10, hps10⟩ := hq; cases hv
  obtain ⟨Is10, Fs10, e11, hv, hrs10, hps10⟩ := hq
  cases hv
  have JRLx_s10 : RLx s10 := RLx_fm Fs10 (by decide) jR
  have JFEQ_s10 : FEQ s10 := FEQ_fm Fs10 (by decide) jFEQ
  have JARJ_s10 : ARJ s10 := ARJ_fm Fs10 ⟨by decide +kernel, by decide +kernel, by decide +kernel, by decide +kernel, by decide +kernel, by decide +kernel, by decide +kernel, by decide +kernel⟩ jARJ
  have JPTJ_s10 : PTJ s10 := PTJ_fm Fs10 (by decide +kernel) jPTJ
  have ws10_0 : iI s10 0 = iI s 0 := fm_iq Fs10 rfl
  have ws10_74 : iI s10 74 = iI s 74 := fm_iq Fs10 rfl
  have ws10_9 : iI s10 9 = iI s 9 := fm_iq Fs10 rfl
  have ws10_90 : iI s10 90 = iI s 90 := fm_iq Fs10 rfl
  have ws10_20 : iI s10 20 = iI s 20 := fm_iq Fs10 rfl
  have ws10_98 : iI s10 98 = iI s 98 := fm_iq Fs10 rfl
  have ws10_12 : iI s10 12 = iI s 12 := fm_iq Fs10 rfl
  have ws10_89 : iI s10 89 = iI s 89 := fm_iq Fs10 rfl
  have wos10 : iO s10 = iO s := fm_o Fs10 (by decide)
  show WS k 1879 [(0, .ref q1), (1, .ref (A 0)), (2, .ref (A 179)), (3, .ref (A 517)), (4, .int (Int32.ofInt i))] [.int (Int32.ofInt e11)] (Wd A dT s10) ce sl
  refine w_pop X.1 (ax_d X (show cdA 350 1879 = some (.pop, 1, 0, 0, 0) from rfl)) rfl (z_aload_n X (x := A 179) rfl (List.Mem.tail _ (List.Mem.tail _ (List.Mem.head _))) (z_aload_n X (x := q1) rfl (List.Mem.head _) (z_load X (x := i) rfl (List.Mem.tail _ (List.Mem.tail _ (List.Mem.tail _ (List.Mem.tail _ (List.Mem.head _))))) (z_const X rfl (z_add X rfl (z_sld X S hL rfl (show 0 ≤ (i + 1) ∧ (i + 1) < (L : Int) by first | exact sx_in hi (by decide) | omega) ?_))))))
  have sr12 : rng (sc xs (i + 1)) := sc_rng
  refine z_callV X 179 (rm := rmN 295) (As := [.int (Int32.ofInt (sc xs (i + 1)))]) (st := []) rfl rfl (by decide) rfl (by rw [E.1, E.2.1, E.2.2.1]; exact k_count G Is10 (by first | exact ⟨sr12.1, sr12.2⟩ | omega)) ⟨by rw [E.2.2.2]; exact (show 7 + 1 ≤ 2048 from oq_4e6106eb), by rw [E.2.2.2]; exact (show 8 + (6 + 11) + 122 ≤ 84000 from oq_380e4f97), by rw [E.2.2.2]; exact (show ce + 0 ≤ 601024 by first | exact oq_349a7c72 hce | omega), by rw [E.2.2.2]; exact (show sl + 0 ≤ 7293034 by first | exact oq_9a8748d4 hsl | omega)⟩ (Nat.le_of_ble_eq_true rfl) (fun vv s13 hq => ?_) (fun ee s13 hq => ?_)
  rotate_left
  · obtain ⟨Is13, Fs13, e14, hv, hrs13, hps13⟩ := hq; cases hv
  obtain ⟨Is13, Fs13, e14, hv, hrs13, hps13⟩ := hq
  cases hv
  have JRLx_s13 : RLx s13 := RLx_fm Fs13 (by decide) JRLx_s10
  have JFEQ_s13 : FEQ s13 := FEQ_fm Fs13 (by decide) JFEQ_s10
  have JARJ_s13 : ARJ s13 := ARJ_fm Fs13 ⟨by decide +kernel, by decide +kernel, by decide +kernel, by decide +kernel, by decide +kernel, by decide +kernel, by decide +kernel, by decide +kernel⟩ JARJ_s10
  have JPTJ_s13 : PTJ s13 := PTJ_fm Fs13 (by decide +kernel) JPTJ_s10
  have ws13_0 : iI s13 0 = iI s10 0 := fm_iq Fs13 rfl
  have ws13_74 : iI s13 74 = iI s10 74 := fm_iq Fs13 rfl
  have ws13_9 : iI s13 9 = iI s10 9 := fm_iq Fs13 rfl
  have ws13_90 : iI s13 90 = iI s10 90 := fm_iq Fs13 rfl
  have ws13_20 : iI s13 20 = iI s10 20 := fm_iq Fs13 rfl
  have ws13_98 : iI s13 98 = iI s10 98 := fm_iq Fs13 rfl
  have ws13_12 : iI s13 12 = iI s10 12 := fm_iq Fs13 rfl
  have ws13_89 : iI s13 89 = iI s10 89 := fm_iq Fs13 rfl
  have wos13 : iO s13 = iO s10 := fm_o Fs13 (by decide)
  show WS k 1890 [(0, .ref q1), (1, .ref (A 0)), (2, .ref (A 179)), (3, .ref (A 517)), (4, .int (Int32.ofInt i))] [.int (Int32.ofInt e14)] (Wd A dT s13) ce sl
  refine w_pop X.1 (ax_d X (show cdA 350 1890 = some (.pop, 1, 0, 0, 0) from rfl)) rfl (z_goto X (t := 1894) rfl rfl (w_widen (ce' := ce + 29) (sl' := sl + 222) (by first | exact Nat.le_add_right _ _ | exact Nat.add_le_add_left (by decide) _ | omega) (by first | exact Nat.le_add_right _ _ | exact Nat.add_le_add_left (by decide) _ | omega) ?_))
  exact WS_lv (lv := [(0, .ref q1), (1, .ref (A 0)), (2, .ref (A 179)), (3, .ref (A 517)), (4, .int (Int32.ofInt i))]) (List.forall_mem_cons.mpr ⟨(List.Mem.head _), (List.forall_mem_cons.mpr ⟨(List.Mem.tail _ (List.Mem.head _)), (List.forall_mem_cons.mpr ⟨(List.Mem.tail _ (List.Mem.tail _ (List.Mem.head _))), (List.forall_mem_cons.mpr ⟨(List.Mem.tail _ (List.Mem.tail _ (List.Mem.tail _ (List.Mem.head _)))), (List.forall_mem_cons.mpr ⟨(List.Mem.tail _ (List.Mem.tail _ (List.Mem.tail _ (List.Mem.tail _ (List.Mem.head _))))), (fun q h => absurd h List.not_mem_nil)⟩)⟩)⟩)⟩)⟩) (hk A _ Is13 JRLx_s13 JFEQ_s13 JARJ_s13 JPTJ_s13 (by first | exact oq_f34933ba ws13_89 ws10_89 p1 b8.1 | omega) (by first | exact oq_d7ce4408 ws13_12 ws10_12 p2 | omega) (by first | exact oq_5bcdc35f ws13_74 ws13_0 ws10_74 ws10_0 p3 | omega) (by first | exact oq_5bcdc35f ws13_90 ws13_9 ws10_90 ws10_9 p4 | omega) (by first | exact oq_5bcdc35f ws13_98 ws13_20 ws10_98 ws10_20 p5 | omega))
theorem law_head (G : GX l s0 D tys a0 dT) (GR : RS0 s0) (SF : SF0 s0) (GT : TXs0 s0) (GW : TXw0 s0) {k : kx_T} (X : AX k 350 dT) (E : kL k = l ∧ kS0 k = s0 ∧ kD k = D ∧ kR k = room_1) {q1 L : Nat} {xs : Nat → Int32} (S : SX k q1 L xs) (hL : L ≤ 3072) (hRt : (kMe k).sig.returnType = some .boolean) (q : kx_end k K0 601024 7293034) : ∀ (n m : Nat) (A : Nat → Nat) (s : PS), Bd s → RLx s → FEQ s → ARJ s → PTJ s → iI s 89 = 1 → iI s 12 ≤ 8 → iI s 0 = iI s 74 → iI s 9 = iI s 90 → iI s 20 = iI s 98 → (L : Int) ≤ 6 * ((m + n : Nat) : Int) + 5 → m ≤ 512 → WS k 23 [(0, .ref q1), (1, .ref (A 0)), (2, .ref (A 179)), (3, .ref (A 517)), (4, .int (Int32.ofInt (6 * (m : Int))))] [] (Wd A dT s) (518 + 29 * m) (23524 + 222 * m) := by
  intro n
  induction n with
  | zero =>
    intro m A s I jR jFEQ jARJ jPTJ p1 p2 p3 p4 p5 hn hm
    refine z_load X (x := (6 * (m : Int))) rfl (List.Mem.tail _ (List.Mem.tail _ (List.Mem.tail _ (List.Mem.tail _ (List.Mem.head _))))) (z_aload_n X (x := q1) rfl (List.Mem.head _) (z_slen X S hL rfl (z_bipush X rfl (z_sub X rfl (z_icmp_gt X (t := 1900) rfl rfl ⟨by omega, by omega⟩ ⟨by omega, by omega⟩ (fun g1 => ?_) (fun g1 => ?_))))))
    ·
      refine z_const X rfl ?_
      exact w_iret X.1 q hRt (nar_ret (Or.inr rfl)) (ax_d X (show cdA 350 1901 = some (.ireturn, 1, 0, 0, 0) from rfl)) (by omega) (by omega) rfl
    ·
      exfalso
      omega
  | succ n ih =>
    intro m A s I jR jFEQ jARJ jPTJ p1 p2 p3 p4 p5 hn hm
    refine z_load X (x := (6 * (m : Int))) rfl (List.Mem.tail _ (List.Mem.tail _ (List.Mem.tail _ (List.Mem.tail _ (List.Mem.head _))))) (z_aload_n X (x := q1) rfl (List.Mem.head _) (z_slen X S hL rfl (z_bipush X rfl (z_sub X rfl (z_icmp_gt X (t := 1900) rfl rfl ⟨by omega, by omega⟩ ⟨by omega, by omega⟩ (fun g1 => ?_) (fun g1 => ?_))))))
    ·
      refine z_const X rfl ?_
      exact w_iret X.1 q hRt (nar_ret (Or.inr rfl)) (ax_d X (show cdA 350 1901 = some (.ireturn, 1, 0, 0, 0) from rfl)) (by omega) (by omega) rfl
    ·
      have hk : ∀ (A : Nat → Nat) (t : PS), Bd t → RLx t → FEQ t → ARJ t → PTJ t → iI t 89 = 1 → iI t 12 ≤ 8 → iI t 0 = iI t 74 → iI t 9 = iI t 90 → iI t 20 = iI t 98 → WS k 1894 [(0, .ref q1), (1, .ref (A 0)), (2, .ref (A 179)), (3, .ref (A 517)), (4, .int (Int32.ofInt (6 * (m : Int))))] [] (Wd A dT t) (518 + 29 * m + 29) (23524 + 222 * m + 222) := by
        intro A t I jR jFEQ jARJ jPTJ p1 p2 p3 p4 p5
        refine z_inc X (x := (6 * (m : Int))) (lv' := [(4, .int (Int32.ofInt (6 * (m : Int) + 6))), (0, .ref q1), (1, .ref (A 0)), (2, .ref (A 179)), (3, .ref (A 517))]) rfl (by decide) (List.Mem.tail _ (List.Mem.tail _ (List.Mem.tail _ (List.Mem.tail _ (List.Mem.head _))))) (fun _ h => h) (z_goto X (t := 23) rfl rfl ?_)
        have e6 : (6 * (m : Int) + 6) = 6 * ((m + 1 : Nat) : Int) := by omega
        rw [e6]
        refine WS_pq [1, 2, 3, 4, 0] (lv' := [(0, .ref q1), (1, .ref (A 0)), (2, .ref (A 179)), (3, .ref (A 517)), (4, .int (Int32.ofInt (6 * ((m + 1 : Nat) : Int))))]) rfl (w_widen (ce' := 518 + 29 * (m + 1)) (sl' := 23524 + 222 * (m + 1)) (by omega) (by omega) ?_)
        exact ih (m + 1) A t I jR jFEQ jARJ jPTJ p1 p2 p3 p4 p5 (by omega) (by omega)
      refine z_aload_n X (x := q1) rfl (List.Mem.head _) (z_load X (x := (6 * (m : Int))) rfl (List.Mem.tail _ (List.Mem.tail _ (List.Mem.tail _ (List.Mem.tail _ (List.Mem.head _))))) (z_sld X S hL rfl (show 0 ≤ (6 * (m : Int)) ∧ (6 * (m : Int)) < (L : Int) by first | exact sx_in hi (by decide) | omega) ?_))
      have sr2 : rng (sc xs (6 * (m : Int))) := sc_rng
      refine z_bipush X rfl (z_andm X rfl (by decide) (by decide) (fun y3 hy3 gy3 => ?_))
      rcases (show y3 = 0 ∨ y3 = 1 ∨ y3 = 2 ∨ y3 = 3 ∨ y3 = 4 ∨ y3 = 5 ∨ y3 = 6 ∨ y3 = 7 ∨ y3 = 8 ∨ y3 = 9 ∨ y3 = 10 ∨ y3 = 11 ∨ y3 = 12 ∨ y3 = 13 ∨ y3 = 14 ∨ y3 = 15 ∨ y3 = 16 ∨ y3 = 17 ∨ y3 = 18 ∨ y3 = 19 ∨ y3 = 20 ∨ y3 = 21 ∨ y3 = 22 ∨ y3 = 23 ∨ y3 = 24 ∨ y3 = 25 ∨ y3 = 26 ∨ y3 = 27 ∨ y3 = 28 ∨ y3 = 29 ∨ y3 = 30 ∨ y3 = 31 ∨ y3 = 32 ∨ y3 = 33 ∨ y3 = 34 ∨ y3 = 35 ∨ y3 = 36 ∨ y3 = 37 ∨ y3 = 38 ∨ y3 = 39 ∨ y3 = 40 ∨ y3 = 41 ∨ y3 = 42 ∨ y3 = 43 ∨ (y3 < 0 ∨ 43 < y3) by omega) with gs | gs | gs | gs | gs | gs | gs | gs | gs | gs | gs | gs | gs | gs | gs | gs | gs | gs | gs | gs | gs | gs | gs | gs | gs | gs | gs | gs | gs | gs | gs | gs | gs | gs | gs | gs | gs | gs | gs | gs | gs | gs | gs | gs | gs
      ·
        rw [gs]
        refine w_tabIn X.1 (dflt := 1854) (lo := 0) (hi := 43) (offs := #[192, 265, 293, 321, 334, 374, 435, 484, 524, 564, 616, 656, 708, 748, 776, 816, 844, 872, 900, 913, 926, 954, 982, 1010, 1050, 1063, 1091, 1131, 1159, 1199, 1239, 1279, 1331, 1371, 1399, 1455, 1519, 1599, 1627, 1735, 1775, 1803, 1816, 1829]) (len := 192) (off := 192) (t := 232) (ax_d X (show cdA 350 40 = some (.tableswitch 1854 0 43 #[192, 265, 293, 321, 334, 374, 435, 484, 524, 564, 616, 656, 708, 748, 776, 816, 844, 872, 900, 913, 926, 954, 982, 1010, 1050, 1063, 1091, 1131, 1159, 1199, 1239, 1279, 1331, 1371, 1399, 1455, 1519, 1599, 1627, 1735, 1775, 1803, 1816, 1829], 192, 0, 0, 0) from rfl)) (by decide) (by decide) (by decide) (by decide) ?_
        exact lc_0 G GR SF GT GW X E S hL I jR jFEQ jARJ jPTJ p1 p2 p3 p4 p5 (by omega) (by omega) (by omega) hk
      ·
        rw [gs]
        refine w_tabIn X.1 (dflt := 1854) (lo := 0) (hi := 43) (offs := #[192, 265, 293, 321, 334, 374, 435, 484, 524, 564, 616, 656, 708, 748, 776, 816, 844, 872, 900, 913, 926, 954, 982, 1010, 1050, 1063, 1091, 1131, 1159, 1199, 1239, 1279, 1331, 1371, 1399, 1455, 1519, 1599, 1627, 1735, 1775, 1803, 1816, 1829]) (len := 192) (off := 265) (t := 305) (ax_d X (show cdA 350 40 = some (.tableswitch 1854 0 43 #[192, 265, 293, 321, 334, 374, 435, 484, 524, 564, 616, 656, 708, 748, 776, 816, 844, 872, 900, 913, 926, 954, 982, 1010, 1050, 1063, 1091, 1131, 1159, 1199, 1239, 1279, 1331, 1371, 1399, 1455, 1519, 1599, 1627, 1735, 1775, 1803, 1816, 1829], 192, 0, 0, 0) from rfl)) (by decide) (by decide) (by decide) (by decide) ?_
        exact lc_1 G GR SF GT GW X E S hL I jR jFEQ jARJ jPTJ p1 p2 p3 p4 p5 (by omega) (by omega) (by omega) hk
      ·
        rw [gs]
        refine w_tabIn X.1 (dflt := 1854) (lo := 0) (hi := 43) (offs := #[192, 265, 293, 321, 334, 374, 435, 484, 524, 564, 616, 656, 708, 748, 776, 816, 844, 872, 900, 913, 926, 954, 982, 1010, 1050, 1063, 1091, 1131, 1159, 1199, 1239, 1279, 1331, 1371, 1399, 1455, 1519, 1599, 1627, 1735, 1775, 1803, 1816, 1829]) (len := 192) (off := 293) (t := 333) (ax_d X (show cdA 350 40 = some (.tableswitch 1854 0 43 #[192, 265, 293, 321, 334, 374, 435, 484, 524, 564, 616, 656, 708, 748, 776, 816, 844, 872, 900, 913, 926, 954, 982, 1010, 1050, 1063, 1091, 1131, 1159, 1199, 1239, 1279, 1331, 1371, 1399, 1455, 1519, 1599, 1627, 1735, 1775, 1803, 1816, 1829], 192, 0, 0, 0) from rfl)) (by decide) (by decide) (by decide) (by decide) ?_
        exact lc_2 G GR SF GT GW X E S hL I jR jFEQ jARJ jPTJ p1 p2 p3 p4 p5 (by omega) (by omega) (by omega) hk
      ·
        rw [gs]
        refine w_tabIn X.1 (dflt := 1854) (lo := 0) (hi := 43) (offs := #[192, 265, 293, 321, 334, 374, 435, 484, 524, 564, 616, 656, 708, 748, 776, 816, 844, 872, 900, 913, 926, 954, 982, 1010, 1050, 1063, 1091, 1131, 1159, 1199, 1239, 1279, 1331, 1371, 1399, 1455, 1519, 1599, 1627, 1735, 1775, 1803, 1816, 1829]) (len := 192) (off := 321) (t := 361) (ax_d X (show cdA 350 40 = some (.tableswitch 1854 0 43 #[192, 265, 293, 321, 334, 374, 435, 484, 524, 564, 616, 656, 708, 748, 776, 816, 844, 872, 900, 913, 926, 954, 982, 1010, 1050, 1063, 1091, 1131, 1159, 1199, 1239, 1279, 1331, 1371, 1399, 1455, 1519, 1599, 1627, 1735, 1775, 1803, 1816, 1829], 192, 0, 0, 0) from rfl)) (by decide) (by decide) (by decide) (by decide) ?_
        exact lc_3 G GR SF GT GW X E S hL I jR jFEQ jARJ jPTJ p1 p2 p3 p4 p5 (by omega) (by omega) (by omega) hk
      ·
        rw [gs]
        refine w_tabIn X.1 (dflt := 1854) (lo := 0) (hi := 43) (offs := #[192, 265, 293, 321, 334, 374, 435, 484, 524, 564, 616, 656, 708, 748, 776, 816, 844, 872, 900, 913, 926, 954, 982, 1010, 1050, 1063, 1091, 1131, 1159, 1199, 1239, 1279, 1331, 1371, 1399, 1455, 1519, 1599, 1627, 1735, 1775, 1803, 1816, 1829]) (len := 192) (off := 334) (t := 374) (ax_d X (show cdA 350 40 = some (.tableswitch 1854 0 43 #[192, 265, 293, 321, 334, 374, 435, 484, 524, 564, 616, 656, 708, 748, 776, 816, 844, 872, 900, 913, 926, 954, 982, 1010, 1050, 1063, 1091, 1131, 1159, 1199, 1239, 1279, 1331, 1371, 1399, 1455, 1519, 1599, 1627, 1735, 1775, 1803, 1816, 1829], 192, 0, 0, 0) from rfl)) (by decide) (by decide) (by decide) (by decide) ?_
        exact lc_4 G GR SF GT GW X E S hL I jR jFEQ jARJ jPTJ p1 p2 p3 p4 p5 (by omega) (by omega) (by omega) hk
      ·
        rw [gs]
        refine w_tabIn X.1 (dflt := 1854) (lo := 0) (hi := 43) (offs := #[192, 265, 293, 321, 334, 374, 435, 484, 524, 564, 616, 656, 708, 748, 776, 816, 844, 872, 900, 913, 926, 954, 982, 1010, 1050, 1063, 1091, 1131, 1159, 1199, 1239, 1279, 1331, 1371, 1399, 1455, 1519, 1599, 1627, 1735, 1775, 1803, 1816, 1829]) (len := 192) (off := 374) (t := 414) (ax_d X (show cdA 350 40 = some (.tableswitch 1854 0 43 #[192, 265, 293, 321, 334, 374, 435, 484, 524, 564, 616, 656, 708, 748, 776, 816, 844, 872, 900, 913, 926, 954, 982, 1010, 1050, 1063, 1091, 1131, 1159, 1199, 1239, 1279, 1331, 1371, 1399, 1455, 1519, 1599, 1627, 1735, 1775, 1803, 1816, 1829], 192, 0, 0, 0) from rfl)) (by decide) (by decide) (by decide) (by decide) ?_
        exact lc_5 G GR SF GT GW X E S hL I jR jFEQ jARJ jPTJ p1 p2 p3 p4 p5 (by omega) (by omega) (by omega) hk
      ·
        rw [gs]
        refine w_tabIn X.1 (dflt := 1854) (lo := 0) (hi := 43) (offs := #[192, 265, 293, 321, 334, 374, 435, 484, 524, 564, 616, 656, 708, 748, 776, 816, 844, 872, 900, 913, 926, 954, 982, 1010, 1050, 1063, 1091, 1131, 1159, 1199, 1239, 1279, 1331, 1371, 1399, 1455, 1519, 1599, 1627, 1735, 1775, 1803, 1816, 1829]) (len := 192) (off := 435) (t := 475) (ax_d X (show cdA 350 40 = some (.tableswitch 1854 0 43 #[192, 265, 293, 321, 334, 374, 435, 484, 524, 564, 616, 656, 708, 748, 776, 816, 844, 872, 900, 913, 926, 954, 982, 1010, 1050, 1063, 1091, 1131, 1159, 1199, 1239, 1279, 1331, 1371, 1399, 1455, 1519, 1599, 1627, 1735, 1775, 1803, 1816, 1829], 192, 0, 0, 0) from rfl)) (by decide) (by decide) (by decide) (by decide) ?_
        exact lc_6 G GR SF GT GW X E S hL I jR jFEQ jARJ jPTJ p1 p2 p3 p4 p5 (by omega) (by omega) (by omega) hk
      ·
        rw [gs]
        refine w_tabIn X.1 (dflt := 1854) (lo := 0) (hi := 43) (offs := #[192, 265, 293, 321, 334, 374, 435, 484, 524, 564, 616, 656, 708, 748, 776, 816, 844, 872, 900, 913, 926, 954, 982, 1010, 1050, 1063, 1091, 1131, 1159, 1199, 1239, 1279, 1331, 1371, 1399, 1455, 1519, 1599, 1627, 1735, 1775, 1803, 1816, 1829]) (len := 192) (off := 484) (t := 524) (ax_d X (show cdA 350 40 = some (.tableswitch 1854 0 43 #[192, 265, 293, 321, 334, 374, 435, 484, 524, 564, 616, 656, 708, 748, 776, 816, 844, 872, 900, 913, 926, 954, 982, 1010, 1050, 1063, 1091, 1131, 1159, 1199, 1239, 1279, 1331, 1371, 1399, 1455, 1519, 1599, 1627, 1735, 1775, 1803, 1816, 1829], 192, 0, 0, 0) from rfl)) (by decide) (by decide) (by decide) (by decide) ?_
        exact lc_7 G GR SF GT GW X E S hL I jR jFEQ jARJ jPTJ p1 p2 p3 p4 p5 (by omega) (by omega) (by omega) hk
      ·
        rw [gs]
        refine w_tabIn X.1 (dflt := 1854) (lo := 0) (hi := 43) (offs := #[192, 265, 293, 321, 334, 374, 435, 484, 524, 564, 616, 656, 708, 748, 776, 816, 844, 872, 900, 913, 926, 954, 982, 1010, 1050, 1063, 1091, 1131, 1159, 1199, 1239, 1279, 1331, 1371, 1399, 1455, 1519, 1599, 1627, 1735, 1775, 1803, 1816, 1829]) (len := 192) (off := 524) (t := 564) (ax_d X (show cdA 350 40 = some (.tableswitch 1854 0 43 #[192, 265, 293, 321, 334, 374, 435, 484, 524, 564, 616, 656, 708, 748, 776, 816, 844, 872, 900, 913, 926, 954, 982, 1010, 1050, 1063, 1091, 1131, 1159, 1199, 1239, 1279, 1331, 1371, 1399, 1455, 1519, 1599, 1627, 1735, 1775, 1803, 1816, 1829], 192, 0, 0, 0) from rfl)) (by decide) (by decide) (by decide) (by decide) ?_
        exact lc_8 G GR SF GT GW X E S hL I jR jFEQ jARJ jPTJ p1 p2 p3 p4 p5 (by omega) (by omega) (by omega) hk
      ·
        rw [gs]
        refine w_tabIn X.1 (dflt := 1854) (lo := 0) (hi := 43) (offs := #[192, 265, 293, 321, 334, 374, 435, 484, 524, 564, 616, 656, 708, 748, 776, 816, 844, 872, 900, 913, 926, 954, 982, 1010, 1050, 1063, 1091, 1131, 1159, 1199, 1239, 1279, 1331, 1371, 1399, 1455, 1519, 1599, 1627, 1735, 1775, 1803, 1816, 1829]) (len := 192) (off := 564) (t := 604) (ax_d X (show cdA 350 40 = some (.tableswitch 1854 0 43 #[192, 265, 293, 321, 334, 374, 435, 484, 524, 564, 616, 656, 708, 748, 776, 816, 844, 872, 900, 913, 926, 954, 982, 1010, 1050, 1063, 1091, 1131, 1159, 1199, 1239, 1279, 1331, 1371, 1399, 1455, 1519, 1599, 1627, 1735, 1775, 1803, 1816, 1829], 192, 0, 0, 0) from rfl)) (by decide) (by decide) (by decide) (by decide) ?_
        exact lc_9 G GR SF GT GW X E S hL I jR jFEQ jARJ jPTJ p1 p2 p3 p4 p5 (by omega) (by omega) (by omega) hk
      ·
        rw [gs]
        refine w_tabIn X.1 (dflt := 1854) (lo := 0) (hi := 43) (offs := #[192, 265, 293, 321, 334, 374, 435, 484, 524, 564, 616, 656, 708, 748, 776, 816, 844, 872, 900, 913, 926, 954, 982, 1010, 1050, 1063, 1091, 1131, 1159, 1199, 1239, 1279, 1331, 1371, 1399, 1455, 1519, 1599, 1627, 1735, 1775, 1803, 1816, 1829]) (len := 192) (off := 616) (t := 656) (ax_d X (show cdA 350 40 = some (.tableswitch 1854 0 43 #[192, 265, 293, 321, 334, 374, 435, 484, 524, 564, 616, 656, 708, 748, 776, 816, 844, 872, 900, 913, 926, 954, 982, 1010, 1050, 1063, 1091, 1131, 1159, 1199, 1239, 1279, 1331, 1371, 1399, 1455, 1519, 1599, 1627, 1735, 1775, 1803, 1816, 1829], 192, 0, 0, 0) from rfl)) (by decide) (by decide) (by decide) (by decide) ?_
        exact lc_10 G GR SF GT GW X E S hL I jR jFEQ jARJ jPTJ p1 p2 p3 p4 p5 (by omega) (by omega) (by omega) hk
      ·
        rw [gs]
        refine w_tabIn X.1 (dflt := 1854) (lo := 0) (hi := 43) (offs := #[192, 265, 293, 321, 334, 374, 435, 484, 524, 564, 616, 656, 708, 748, 776, 816, 844, 872, 900, 913, 926, 954, 982, 1010, 1050, 1063, 1091, 1131, 1159, 1199, 1239, 1279, 1331, 1371, 1399, 1455, 1519, 1599, 1627, 1735, 1775, 1803, 1816, 1829]) (len := 192) (off := 656) (t := 696) (ax_d X (show cdA 350 40 = some (.tableswitch 1854 0 43 #[192, 265, 293, 321, 334, 374, 435, 484, 524, 564, 616, 656, 708, 748, 776, 816, 844, 872, 900, 913, 926, 954, 982, 1010, 1050, 1063, 1091, 1131, 1159, 1199, 1239, 1279, 1331, 1371, 1399, 1455, 1519, 1599, 1627, 1735, 1775, 1803, 1816, 1829], 192, 0, 0, 0) from rfl)) (by decide) (by decide) (by decide) (by decide) ?_
        exact lc_11 G GR SF GT GW X E S hL I jR jFEQ jARJ jPTJ p1 p2 p3 p4 p5 (by omega) (by omega) (by omega) hk
      ·
        rw [gs]
        refine w_tabIn X.1 (dflt := 1854) (lo := 0) (hi := 43) (offs := #[192, 265, 293, 321, 334, 374, 435, 484, 524, 564, 616, 656, 708, 748, 776, 816, 844, 872, 900, 913, 926, 954, 982, 1010, 1050, 1063, 1091, 1131, 1159, 1199, 1239, 1279, 1331, 1371, 1399, 1455, 1519, 1599, 1627, 1735, 1775, 1803, 1816, 1829]) (len := 192) (off := 708) (t := 748) (ax_d X (show cdA 350 40 = some (.tableswitch 1854 0 43 #[192, 265, 293, 321, 334, 374, 435, 484, 524, 564, 616, 656, 708, 748, 776, 816, 844, 872, 900, 913, 926, 954, 982, 1010, 1050, 1063, 1091, 1131, 1159, 1199, 1239, 1279, 1331, 1371, 1399, 1455, 1519, 1599, 1627, 1735, 1775, 1803, 1816, 1829], 192, 0, 0, 0) from rfl)) (by decide) (by decide) (by decide) (by decide) ?_
        exact lc_12 G GR SF GT GW X E S hL I jR jFEQ jARJ jPTJ p1 p2 p3 p4 p5 (by omega) (by omega) (by omega) hk
      ·
        rw [gs]
        refine w_tabIn X.1 (dflt := 1854) (lo := 0) (hi := 43) (offs := #[192, 265, 293, 321, 334, 374, 435, 484, 524, 564, 616, 656, 708, 748, 776, 816, 844, 872, 900, 913, 926, 954, 982, 1010, 1050, 1063, 1091, 1131, 1159, 1199, 1239, 1279, 1331, 1371, 1399, 1455, 1519, 1599, 1627, 1735, 1775, 1803, 1816, 1829]) (len := 192) (off := 748) (t := 788) (ax_d X (show cdA 350 40 = some (.tableswitch 1854 0 43 #[192, 265, 293, 321, 334, 374, 435, 484, 524, 564, 616, 656, 708, 748, 776, 816, 844, 872, 900, 913, 926, 954, 982, 1010, 1050, 1063, 1091, 1131, 1159, 1199, 1239, 1279, 1331, 1371, 1399, 1455, 1519, 1599, 1627, 1735, 1775, 1803, 1816, 1829], 192, 0, 0, 0) from rfl)) (by decide) (by decide) (by decide) (by decide) ?_
        exact lc_13 G GR SF GT GW X E S hL I jR jFEQ jARJ jPTJ p1 p2 p3 p4 p5 (by omega) (by omega) (by omega) hk
      ·
        rw [gs]
        refine w_tabIn X.1 (dflt := 1854) (lo := 0) (hi := 43) (offs := #[192, 265, 293, 321, 334, 374, 435, 484, 524, 564, 616, 656, 708, 748, 776, 816, 844, 872, 900, 913, 926, 954, 982, 1010, 1050, 1063, 1091, 1131, 1159, 1199, 1239, 1279, 1331, 1371, 1399, 1455, 1519, 1599, 1627, 1735, 1775, 1803, 1816, 1829]) (len := 192) (off := 776) (t := 816) (ax_d X (show cdA 350 40 = some (.tableswitch 1854 0 43 #[192, 265, 293, 321, 334, 374, 435, 484, 524, 564, 616, 656, 708, 748, 776, 816, 844, 872, 900, 913, 926, 954, 982, 1010, 1050, 1063, 1091, 1131, 1159, 1199, 1239, 1279, 1331, 1371, 1399, 1455, 1519, 1599, 1627, 1735, 1775, 1803, 1816, 1829], 192, 0, 0, 0) from rfl)) (by decide) (by decide) (by decide) (by decide) ?_
        exact lc_14 G GR SF GT GW X E S hL I jR jFEQ jARJ jPTJ p1 p2 p3 p4 p5 (by omega) (by omega) (by omega) hk
      ·
        rw [gs]
        refine w_tabIn X.1 (dflt := 1854) (lo := 0) (hi := 43) (offs := #[192, 265, 293, 321, 334, 374, 435, 484, 524, 564, 616, 656, 708, 748, 776, 816, 844, 872, 900, 913, 926, 954, 982, 1010, 1050, 1063, 1091, 1131, 1159, 1199, 1239, 1279, 1331, 1371, 1399, 1455, 1519, 1599, 1627, 1735, 1775, 1803, 1816, 1829]) (len := 192) (off := 816) (t := 856) (ax_d X (show cdA 350 40 = some (.tableswitch 1854 0 43 #[192, 265, 293, 321, 334, 374, 435, 484, 524, 564, 616, 656, 708, 748, 776, 816, 844, 872, 900, 913, 926, 954, 982, 1010, 1050, 1063, 1091, 1131, 1159, 1199, 1239, 1279, 1331, 1371, 1399, 1455, 1519, 1599, 1627, 1735, 1775, 1803, 1816, 1829], 192, 0, 0, 0) from rfl)) (by decide) (by decide) (by decide) (by decide) ?_
        exact lc_15 G GR SF GT GW X E S hL I jR jFEQ jARJ jPTJ p1 p2 p3 p4 p5 (by omega) (by omega) (by omega) hk
      ·
        rw [gs]
        refine w_tabIn X.1 (dflt := 1854) (lo := 0) (hi := 43) (offs := #[192, 265, 293, 321, 334, 374, 435, 484, 524, 564, 616, 656, 708, 748, 776, 816, 844, 872, 900, 913, 926, 954, 982, 1010, 1050, 1063, 1091, 1131, 1159, 1199, 1239, 1279, 1331, 1371, 1399, 1455, 1519, 1599, 1627, 1735, 1775, 1803, 1816, 1829]) (len := 192) (off := 844) (t := 884) (ax_d X (show cdA 350 40 = some (.tableswitch 1854 0 43 #[192, 265, 293, 321, 334, 374, 435, 484, 524, 564, 616, 656, 708, 748, 776, 816, 844, 872, 900, 913, 926, 954, 982, 1010, 1050, 1063, 1091, 1131, 1159, 1199, 1239, 1279, 1331, 1371, 1399, 1455, 1519, 1599, 1627, 1735, 1775, 1803, 1816, 1829], 192, 0, 0, 0) from rfl)) (by decide) (by decide) (by decide) (by decide) ?_
        exact lc_16 G GR SF GT GW X E S hL I jR jFEQ jARJ jPTJ p1 p2 p3 p4 p5 (by omega) (by omega) (by omega) hk
      ·
        rw [gs]
        refine w_tabIn X.1 (dflt := 1854) (lo := 0) (hi := 43) (offs := #[192, 265, 293, 321, 334, 374, 435, 484, 524, 564, 616, 656, 708, 748, 776, 816, 844, 872, 900, 913, 926, 954, 982, 1010, 1050, 1063, 1091, 1131, 1159, 1199, 1239, 1279, 1331, 1371, 1399, 1455, 1519, 1599, 1627, 1735, 1775, 1803, 1816, 1829]) (len := 192) (off := 872) (t := 912) (ax_d X (show cdA 350 40 = some (.tableswitch 1854 0 43 #[192, 265, 293, 321, 334, 374, 435, 484, 524, 564, 616, 656, 708, 748, 776, 816, 844, 872, 900, 913, 926, 954, 982, 1010, 1050, 1063, 1091, 1131, 1159, 1199, 1239, 1279, 1331, 1371, 1399, 1455, 1519, 1599, 1627, 1735, 1775, 1803, 1816, 1829], 192, 0, 0, 0) from rfl)) (by decide) (by decide) (by decide) (by decide) ?_
        exact lc_17 G GR SF GT GW X E S hL I jR jFEQ jARJ jPTJ p1 p2 p3 p4 p5 (by omega) (by omega) (by omega) hk
      ·
        rw [gs]
        refine w_tabIn X.1 (dflt := 1854) (lo := 0) (hi := 43) (offs := #[192, 265, 293, 321, 334, 374, 435, 484, 524, 564, 616, 656, 708, 748, 776, 816, 844, 872, 900, 913, 926, 954, 982, 1010, 1050, 1063, 1091, 1131, 1159, 1199, 1239, 1279, 1331, 1371, 1399, 1455, 1519, 1599, 1627, 1735, 1775, 1803, 1816, 1829]) (len := 192) (off := 900) (t := 940) (ax_d X (show cdA 350 40 = some (.tableswitch 1854 0 43 #[192, 265, 293, 321, 334, 374, 435, 484, 524, 564, 616, 656, 708, 748, 776, 816, 844, 872, 900, 913, 926, 954, 982, 1010, 1050, 1063, 1091, 1131, 1159, 1199, 1239, 1279, 1331, 1371, 1399, 1455, 1519, 1599, 1627, 1735, 1775, 1803, 1816, 1829], 192, 0, 0, 0) from rfl)) (by decide) (by decide) (by decide) (by decide) ?_
        exact lc_18 G GR SF GT GW X E S hL I jR jFEQ jARJ jPTJ p1 p2 p3 p4 p5 (by omega) (by omega) (by omega) hk
      ·
        rw [gs]
        refine w_tabIn X.1 (dflt := 1854) (lo := 0) (hi := 43) (offs := #[192, 265, 293, 321, 334, 374, 435, 484, 524, 564, 616, 656, 708, 748, 776, 816, 844, 872, 900, 913, 926, 954, 982, 1010, 1050, 1063, 1091, 1131, 1159, 1199, 1239, 1279, 1331, 1371, 1399, 1455, 1519, 1599, 1627, 1735, 1775, 1803, 1816, 1829]) (len := 192) (off := 913) (t := 953) (ax_d X (show cdA 350 40 = some (.tableswitch 1854 0 43 #[192, 265, 293, 321, 334, 374, 435, 484, 524, 564, 616, 656, 708, 748, 776, 816, 844, 872, 900, 913, 926, 954, 982, 1010, 1050, 1063, 1091, 1131, 1159, 1199, 1239, 1279, 1331, 1371, 1399, 1455, 1519, 1599, 1627, 1735, 1775, 1803, 1816, 1829], 192, 0, 0, 0) from rfl)) (by decide) (by decide) (by decide) (by decide) ?_
        exact lc_19 G GR SF GT GW X E S hL I jR jFEQ jARJ jPTJ p1 p2 p3 p4 p5 (by omega) (by omega) (by omega) hk
      ·
        rw [gs]
        refine w_tabIn X.1 (dflt := 1854) (lo := 0) (hi := 43) (offs := #[192, 265, 293, 321, 334, 374, 435, 484, 524, 564, 616, 656, 708, 748, 776, 816, 844, 872, 900, 913, 926, 954, 982, 1010, 1050, 1063, 1091, 1131, 1159, 1199, 1239, 1279, 1331, 1371, 1399, 1455, 1519, 1599, 1627, 1735, 1775, 1803, 1816, 1829]) (len := 192) (off := 926) (t := 966) (ax_d X (show cdA 350 40 = some (.tableswitch 1854 0 43 #[192, 265, 293, 321, 334, 374, 435, 484, 524, 564, 616, 656, 708, 748, 776, 816, 844, 872, 900, 913, 926, 954, 982, 1010, 1050, 1063, 1091, 1131, 1159, 1199, 1239, 1279, 1331, 1371, 1399, 1455, 1519, 1599, 1627, 1735, 1775, 1803, 1816, 1829], 192, 0, 0, 0) from rfl)) (by decide) (by decide) (by decide) (by decide) ?_
        exact lc_20 G GR SF GT GW X E S hL I jR jFEQ jARJ jPTJ p1 p2 p3 p4 p5 (by omega) (by omega) (by omega) hk
      ·
        rw [gs]
        refine w_tabIn X.1 (dflt := 1854) (lo := 0) (hi := 43) (offs := #[192, 265, 293, 321, 334, 374, 435, 484, 524, 564, 616, 656, 708, 748, 776, 816, 844, 872, 900, 913, 926, 954, 982, 1010, 1050, 1063, 1091, 1131, 1159, 1199, 1239, 1279, 1331, 1371, 1399, 1455, 1519, 1599, 1627, 1735, 1775, 1803, 1816, 1829]) (len := 192) (off := 954) (t := 994) (ax_d X (show cdA 350 40 = some (.tableswitch 1854 0 43 #[192, 265, 293, 321, 334, 374, 435, 484, 524, 564, 616, 656, 708, 748, 776, 816, 844, 872, 900, 913, 926, 954, 982, 1010, 1050, 1063, 1091, 1131, 1159, 1199, 1239, 1279, 1331, 1371, 1399, 1455, 1519, 1599, 1627, 1735, 1775, 1803, 1816, 1829], 192, 0, 0, 0) from rfl)) (by decide) (by decide) (by decide) (by decide) ?_
        exact lc_21 G GR SF GT GW X E S hL I jR jFEQ jARJ jPTJ p1 p2 p3 p4 p5 (by omega) (by omega) (by omega) hk
      ·
        rw [gs]
        refine w_tabIn X.1 (dflt := 1854) (lo := 0) (hi := 43) (offs := #[192, 265, 293, 321, 334, 374, 435, 484, 524, 564, 616, 656, 708, 748, 776, 816, 844, 872, 900, 913, 926, 954, 982, 1010, 1050, 1063, 1091, 1131, 1159, 1199, 1239, 1279, 1331, 1371, 1399, 1455, 1519, 1599, 1627, 1735, 1775, 1803, 1816, 1829]) (len := 192) (off := 982) (t := 1022) (ax_d X (show cdA 350 40 = some (.tableswitch 1854 0 43 #[192, 265, 293, 321, 334, 374, 435, 484, 524, 564, 616, 656, 708, 748, 776, 816, 844, 872, 900, 913, 926, 954, 982, 1010, 1050, 1063, 1091, 1131, 1159, 1199, 1239, 1279, 1331, 1371, 1399, 1455, 1519, 1599, 1627, 1735, 1775, 1803, 1816, 1829], 192, 0, 0, 0) from rfl)) (by decide) (by decide) (by decide) (by decide) ?_
        exact lc_22 G GR SF GT GW X E S hL I jR jFEQ jARJ jPTJ p1 p2 p3 p4 p5 (by omega) (by omega) (by omega) hk
      ·
        rw [gs]
        refine w_tabIn X.1 (dflt := 1854) (lo := 0) (hi := 43) (offs := #[192, 265, 293, 321, 334, 374, 435, 484, 524, 564, 616, 656, 708, 748, 776, 816, 844, 872, 900, 913, 926, 954, 982, 1010, 1050, 1063, 1091, 1131, 1159, 1199, 1239, 1279, 1331, 1371, 1399, 1455, 1519, 1599, 1627, 1735, 1775, 1803, 1816, 1829]) (len := 192) (off := 1010) (t := 1050) (ax_d X (show cdA 350 40 = some (.tableswitch 1854 0 43 #[192, 265, 293, 321, 334, 374, 435, 484, 524, 564, 616, 656, 708, 748, 776, 816, 844, 872, 900, 913, 926, 954, 982, 1010, 1050, 1063, 1091, 1131, 1159, 1199, 1239, 1279, 1331, 1371, 1399, 1455, 1519, 1599, 1627, 1735, 1775, 1803, 1816, 1829], 192, 0, 0, 0) from rfl)) (by decide) (by decide) (by decide) (by decide) ?_
        exact lc_23 G GR SF GT GW X E S hL I jR jFEQ jARJ jPTJ p1 p2 p3 p4 p5 (by omega) (by omega) (by omega) hk
      ·
        rw [gs]
        refine w_tabIn X.1 (dflt := 1854) (lo := 0) (hi := 43) (offs := #[192, 265, 293, 321, 334, 374, 435, 484, 524, 564, 616, 656, 708, 748, 776, 816, 844, 872, 900, 913, 926, 954, 982, 1010, 1050, 1063, 1091, 1131, 1159, 1199, 1239, 1279, 1331, 1371, 1399, 1455, 1519, 1599, 1627, 1735, 1775, 1803, 1816, 1829]) (len := 192) (off := 1050) (t := 1090) (ax_d X (show cdA 350 40 = some (.tableswitch 1854 0 43 #[192, 265, 293, 321, 334, 374, 435, 484, 524, 564, 616, 656, 708, 748, 776, 816, 844, 872, 900, 913, 926, 954, 982, 1010, 1050, 1063, 1091, 1131, 1159, 1199, 1239, 1279, 1331, 1371, 1399, 1455, 1519, 1599, 1627, 1735, 1775, 1803, 1816, 1829], 192, 0, 0, 0) from rfl)) (by decide) (by decide) (by decide) (by decide) ?_
        exact lc_24 G GR SF GT GW X E S hL I jR jFEQ jARJ jPTJ p1 p2 p3 p4 p5 (by omega) (by omega) (by omega) hk
      ·
        rw [gs]
        refine w_tabIn X.1 (dflt := 1854) (lo := 0) (hi := 43) (offs := #[192, 265, 293, 321, 334, 374, 435, 484, 524, 564, 616, 656, 708, 748, 776, 816, 844, 872, 900, 913, 926, 954, 982, 1010, 1050, 1063, 1091, 1131, 1159, 1199, 1239, 1279, 1331, 1371, 1399, 1455, 1519, 1599, 1627, 1735, 1775, 1803, 1816, 1829]) (len := 192) (off := 1063) (t := 1103) (ax_d X (show cdA 350 40 = some (.tableswitch 1854 0 43 #[192, 265, 293, 321, 334, 374, 435, 484, 524, 564, 616, 656, 708, 748, 776, 816, 844, 872, 900, 913, 926, 954, 982, 1010, 1050, 1063, 1091, 1131, 1159, 1199, 1239, 1279, 1331, 1371, 1399, 1455, 1519, 1599, 1627, 1735, 1775, 1803, 1816, 1829], 192, 0, 0, 0) from rfl)) (by decide) (by decide) (by decide) (by decide) ?_
        exact lc_25 G GR SF GT GW X E S hL I jR jFEQ jARJ jPTJ p1 p2 p3 p4 p5 (by omega) (by omega) (by omega) hk
      ·
        rw [gs]
        refine w_tabIn X.1 (dflt := 1854) (lo := 0) (hi := 43) (offs := #[192, 265, 293, 321, 334, 374, 435, 484, 524, 564, 616, 656, 708, 748, 776, 816, 844, 872, 900, 913, 926, 954, 982, 1010, 1050, 1063, 1091, 1131, 1159, 1199, 1239, 1279, 1331, 1371, 1399, 1455, 1519, 1599, 1627, 1735, 1775, 1803, 1816, 1829]) (len := 192) (off := 1091) (t := 1131) (ax_d X (show cdA 350 40 = some (.tableswitch 1854 0 43 #[192, 265, 293, 321, 334, 374, 435, 484, 524, 564, 616, 656, 708, 748, 776, 816, 844, 872, 900, 913, 926, 954, 982, 1010, 1050, 1063, 1091, 1131, 1159, 1199, 1239, 1279, 1331, 1371, 1399, 1455, 1519, 1599, 1627, 1735, 1775, 1803, 1816, 1829], 192, 0, 0, 0) from rfl)) (by decide) (by decide) (by decide) (by decide) ?_
        exact lc_26 G GR SF GT GW X E S hL I jR jFEQ jARJ jPTJ p1 p2 p3 p4 p5 (by omega) (by omega) (by omega) hk
      ·
        rw [gs]
        refine w_tabIn X.1 (dflt := 1854) (lo := 0) (hi := 43) (offs := #[192, 265, 293, 321, 334, 374, 435, 484, 524, 564, 616, 656, 708, 748, 776, 816, 844, 872, 900, 913, 926, 954, 982, 1010, 1050, 1063, 1091, 1131, 1159, 1199, 1239, 1279, 1331, 1371, 1399, 1455, 1519, 1599, 1627, 1735, 1775, 1803, 1816, 1829]) (len := 192) (off := 1131) (t := 1171) (ax_d X (show cdA 350 40 = some (.tableswitch 1854 0 43 #[192, 265, 293, 321, 334, 374, 435, 484, 524, 564, 616, 656, 708, 748, 776, 816, 844, 872, 900, 913, 926, 954, 982, 1010, 1050, 1063, 1091, 1131, 1159, 1199, 1239, 1279, 1331, 1371, 1399, 1455, 1519, 1599, 1627, 1735, 1775, 1803, 1816, 1829], 192, 0, 0, 0) from rfl)) (by decide) (by decide) (by decide) (by decide) ?_
        exact lc_27 G GR SF GT GW X E S hL I jR jFEQ jARJ jPTJ p1 p2 p3 p4 p5 (by omega) (by omega) (by omega) hk
      ·
        rw [gs]
        refine w_tabIn X.1 (dflt := 1854) (lo := 0) (hi := 43) (offs := #[192, 265, 293, 321, 334, 374, 435, 484, 524, 564, 616, 656, 708, 748, 776, 816, 844, 872, 900, 913, 926, 954, 982, 1010, 1050, 1063, 1091, 1131, 1159, 1199, 1239, 1279, 1331, 1371, 1399, 1455, 1519, 1599, 1627, 1735, 1775, 1803, 1816, 1829]) (len := 192) (off := 1159) (t := 1199) (ax_d X (show cdA 350 40 = some (.tableswitch 1854 0 43 #[192, 265, 293, 321, 334, 374, 435, 484, 524, 564, 616, 656, 708, 748, 776, 816, 844, 872, 900, 913, 926, 954, 982, 1010, 1050, 1063, 1091, 1131, 1159, 1199, 1239, 1279, 1331, 1371, 1399, 1455, 1519, 1599, 1627, 1735, 1775, 1803, 1816, 1829], 192, 0, 0, 0) from rfl)) (by decide) (by decide) (by decide) (by decide) ?_
        exact lc_28 G GR SF GT GW X E S hL I jR jFEQ jARJ jPTJ p1 p2 p3 p4 p5 (by omega) (by omega) (by omega) hk
      ·
        rw [gs]
        refine w_tabIn X.1 (dflt := 1854) (lo := 0) (hi := 43) (offs := #[192, 265, 293, 321, 334, 374, 435, 484, 524, 564, 616, 656, 708, 748, 776, 816, 844, 872, 900, 913, 926, 954, 982, 1010, 1050, 1063, 1091, 1131, 1159, 1199, 1239, 1279, 1331, 1371, 1399, 1455, 1519, 1599, 1627, 1735, 1775, 1803, 1816, 1829]) (len := 192) (off := 1199) (t := 1239) (ax_d X (show cdA 350 40 = some (.tableswitch 1854 0 43 #[192, 265, 293, 321, 334, 374, 435, 484, 524, 564, 616, 656, 708, 748, 776, 816, 844, 872, 900, 913, 926, 954, 982, 1010, 1050, 1063, 1091, 1131, 1159, 1199, 1239, 1279, 1331, 1371, 1399, 1455, 1519, 1599, 1627, 1735, 1775, 1803, 1816, 1829], 192, 0, 0, 0) from rfl)) (by decide) (by decide) (by decide) (by decide) ?_
        exact lc_29 G GR SF GT GW X E S hL I jR jFEQ jARJ jPTJ p1 p2 p3 p4 p5 (by omega) (by omega) (by omega) hk
      ·
        rw [gs]
        refine w_tabIn X.1 (dflt := 1854) (lo := 0) (hi := 43) (offs := #[192, 265, 293, 321, 334, 374, 435, 484, 524, 564, 616, 656, 708, 748, 776, 816, 844, 872, 900, 913, 926, 954, 982, 1010, 1050, 1063, 1091, 1131, 1159, 1199, 1239, 1279, 1331, 1371, 1399, 1455, 1519, 1599, 1627, 1735, 1775, 1803, 1816, 1829]) (len := 192) (off := 1239) (t := 1279) (ax_d X (show cdA 350 40 = some (.tableswitch 1854 0 43 #[192, 265, 293, 321, 334, 374, 435, 484, 524, 564, 616, 656, 708, 748, 776, 816, 844, 872, 900, 913, 926, 954, 982, 1010, 1050, 1063, 1091, 1131, 1159, 1199, 1239, 1279, 1331, 1371, 1399, 1455, 1519, 1599, 1627, 1735, 1775, 1803, 1816, 1829], 192, 0, 0, 0) from rfl)) (by decide) (by decide) (by decide) (by decide) ?_
        exact lc_30 G GR SF GT GW X E S hL I jR jFEQ jARJ jPTJ p1 p2 p3 p4 p5 (by omega) (by omega) (by omega) hk
      ·
        rw [gs]
        refine w_tabIn X.1 (dflt := 1854) (lo := 0) (hi := 43) (offs := #[192, 265, 293, 321, 334, 374, 435, 484, 524, 564, 616, 656, 708, 748, 776, 816, 844, 872, 900, 913, 926, 954, 982, 1010, 1050, 1063, 1091, 1131, 1159, 1199, 1239, 1279, 1331, 1371, 1399, 1455, 1519, 1599, 1627, 1735, 1775, 1803, 1816, 1829]) (len := 192) (off := 1279) (t := 1319) (ax_d X (show cdA 350 40 = some (.tableswitch 1854 0 43 #[192, 265, 293, 321, 334, 374, 435, 484, 524, 564, 616, 656, 708, 748, 776, 816, 844, 872, 900, 913, 926, 954, 982, 1010, 1050, 1063, 1091, 1131, 1159, 1199, 1239, 1279, 1331, 1371, 1399, 1455, 1519, 1599, 1627, 1735, 1775, 1803, 1816, 1829], 192, 0, 0, 0) from rfl)) (by decide) (by decide) (by decide) (by decide) ?_
        exact lc_31 G GR SF GT GW X E S hL I jR jFEQ jARJ jPTJ p1 p2 p3 p4 p5 (by omega) (by omega) (by omega) hk
      ·
        rw [gs]
        refine w_tabIn X.1 (dflt := 1854) (lo := 0) (hi := 43) (offs := #[192, 265, 293, 321, 334, 374, 435, 484, 524, 564, 616, 656, 708, 748, 776, 816, 844, 872, 900, 913, 926, 954, 982, 1010, 1050, 1063, 1091, 1131, 1159, 1199, 1239, 1279, 1331, 1371, 1399, 1455, 1519, 1599, 1627, 1735, 1775, 1803, 1816, 1829]) (len := 192) (off := 1331) (t := 1371) (ax_d X (show cdA 350 40 = some (.tableswitch 1854 0 43 #[192, 265, 293, 321, 334, 374, 435, 484, 524, 564, 616, 656, 708, 748, 776, 816, 844, 872, 900, 913, 926, 954, 982, 1010, 1050, 1063, 1091, 1131, 1159, 1199, 1239, 1279, 1331, 1371, 1399, 1455, 1519, 1599, 1627, 1735, 1775, 1803, 1816, 1829], 192, 0, 0, 0) from rfl)) (by decide) (by decide) (by decide) (by decide) ?_
        exact lc_32 G GR SF GT GW X E S hL I jR jFEQ jARJ jPTJ p1 p2 p3 p4 p5 (by omega) (by omega) (by omega) hk
      ·
        rw [gs]
        refine w_tabIn X.1 (dflt := 1854) (lo := 0) (hi := 43) (offs := #[192, 265, 293, 321, 334, 374, 435, 484, 524, 564, 616, 656, 708, 748, 776, 816, 844, 872, 900, 913, 926, 954, 982, 1010, 1050, 1063, 1091, 1131, 1159, 1199, 1239, 1279, 1331, 1371, 1399, 1455, 1519, 1599, 1627, 1735, 1775, 1803, 1816, 1829]) (len := 192) (off := 1371) (t := 1411) (ax_d X (show cdA 350 40 = some (.tableswitch 1854 0 43 #[192, 265, 293, 321, 334, 374, 435, 484, 524, 564, 616, 656, 708, 748, 776, 816, 844, 872, 900, 913, 926, 954, 982, 1010, 1050, 1063, 1091, 1131, 1159, 1199, 1239, 1279, 1331, 1371, 1399, 1455, 1519, 1599, 1627, 1735, 1775, 1803, 1816, 1829], 192, 0, 0, 0) from rfl)) (by decide) (by decide) (by decide) (by decide) ?_
        exact lc_33 G GR SF GT GW X E S hL I jR jFEQ jARJ jPTJ p1 p2 p3 p4 p5 (by omega) (by omega) (by omega) hk
      ·
        rw [gs]
        refine w_tabIn X.1 (dflt := 1854) (lo := 0) (hi := 43) (offs := #[192, 265, 293, 321, 334, 374, 435, 484, 524, 564, 616, 656, 708, 748, 776, 816, 844, 872, 900, 913, 926, 954, 982, 1010, 1050, 1063, 1091, 1131, 1159, 1199, 1239, 1279, 1331, 1371, 1399, 1455, 1519, 1599, 1627, 1735, 1775, 1803, 1816, 1829]) (len := 192) (off := 1399) (t := 1439) (ax_d X (show cdA 350 40 = some (.tableswitch 1854 0 43 #[192, 265, 293, 321, 334, 374, 435, 484, 524, 564, 616, 656, 708, 748, 776, 816, 844, 872, 900, 913, 926, 954, 982, 1010, 1050, 1063, 1091, 1131, 1159, 1199, 1239, 1279, 1331, 1371, 1399, 1455, 1519, 1599, 1627, 1735, 1775, 1803, 1816, 1829], 192, 0, 0, 0) from rfl)) (by decide) (by decide) (by decide) (by decide) ?_
        exact lc_34 G GR SF GT GW X E S hL I jR jFEQ jARJ jPTJ p1 p2 p3 p4 p5 (by omega) (by omega) (by omega) hk
      ·
        rw [gs]
        refine w_tabIn X.1 (dflt := 1854) (lo := 0) (hi := 43) (offs := #[192, 265, 293, 321, 334, 374, 435, 484, 524, 564, 616, 656, 708, 748, 776, 816, 844, 872, 900, 913, 926, 954, 982, 1010, 1050, 1063, 1091, 1131, 1159, 1199, 1239, 1279, 1331, 1371, 1399, 1455, 1519, 1599, 1627, 1735, 1775, 1803, 1816, 1829]) (len := 192) (off := 1455) (t := 1495) (ax_d X (show cdA 350 40 = some (.tableswitch 1854 0 43 #[192, 265, 293, 321, 334, 374, 435, 484, 524, 564, 616, 656, 708, 748, 776, 816, 844, 872, 900, 913, 926, 954, 982, 1010, 1050, 1063, 1091, 1131, 1159, 1199, 1239, 1279, 1331, 1371, 1399, 1455, 1519, 1599, 1627, 1735, 1775, 1803, 1816, 1829], 192, 0, 0, 0) from rfl)) (by decide) (by decide) (by decide) (by decide) ?_
        exact lc_35 G GR SF GT GW X E S hL I jR jFEQ jARJ jPTJ p1 p2 p3 p4 p5 (by omega) (by omega) (by omega) hk
      ·
        rw [gs]
        refine w_tabIn X.1 (dflt := 1854) (lo := 0) (hi := 43) (offs := #[192, 265, 293, 321, 334, 374, 435, 484, 524, 564, 616, 656, 708, 748, 776, 816, 844, 872, 900, 913, 926, 954, 982, 1010, 1050, 1063, 1091, 1131, 1159, 1199, 1239, 1279, 1331, 1371, 1399, 1455, 1519, 1599, 1627, 1735, 1775, 1803, 1816, 1829]) (len := 192) (off := 1519) (t := 1559) (ax_d X (show cdA 350 40 = some (.tableswitch 1854 0 43 #[192, 265, 293, 321, 334, 374, 435, 484, 524, 564, 616, 656, 708, 748, 776, 816, 844, 872, 900, 913, 926, 954, 982, 1010, 1050, 1063, 1091, 1131, 1159, 1199, 1239, 1279, 1331, 1371, 1399, 1455, 1519, 1599, 1627, 1735, 1775, 1803, 1816, 1829], 192, 0, 0, 0) from rfl)) (by decide) (by decide) (by decide) (by decide) ?_
        exact lc_36 G GR SF GT GW X E S hL I jR jFEQ jARJ jPTJ p1 p2 p3 p4 p5 (by omega) (by omega) (by omega) hk
      ·
        rw [gs]
        refine w_tabIn X.1 (dflt := 1854) (lo := 0) (hi := 43) (offs := #[192, 265, 293, 321, 334, 374, 435, 484, 524, 564, 616, 656, 708, 748, 776, 816, 844, 872, 900, 913, 926, 954, 982, 1010, 1050, 1063, 1091, 1131, 1159, 1199, 1239, 1279, 1331, 1371, 1399, 1455, 1519, 1599, 1627, 1735, 1775, 1803, 1816, 1829]) (len := 192) (off := 1599) (t := 1639) (ax_d X (show cdA 350 40 = some (.tableswitch 1854 0 43 #[192, 265, 293, 321, 334, 374, 435, 484, 524, 564, 616, 656, 708, 748, 776, 816, 844, 872, 900, 913, 926, 954, 982, 1010, 1050, 1063, 1091, 1131, 1159, 1199, 1239, 1279, 1331, 1371, 1399, 1455, 1519, 1599, 1627, 1735, 1775, 1803, 1816, 1829], 192, 0, 0, 0) from rfl)) (by decide) (by decide) (by decide) (by decide) ?_
        exact lc_37 G GR SF GT GW X E S hL I jR jFEQ jARJ jPTJ p1 p2 p3 p4 p5 (by omega) (by omega) (by omega) hk
      ·
        rw [gs]
        refine w_tabIn X.1 (dflt := 1854) (lo := 0) (hi := 43) (offs := #[192, 265, 293, 321, 334, 374, 435, 484, 524, 564, 616, 656, 708, 748, 776, 816, 844, 872, 900, 913, 926, 954, 982, 1010, 1050, 1063, 1091, 1131, 1159, 1199, 1239, 1279, 1331, 1371, 1399, 1455, 1519, 1599, 1627, 1735, 1775, 1803, 1816, 1829]) (len := 192) (off := 1627) (t := 1667) (ax_d X (show cdA 350 40 = some (.tableswitch 1854 0 43 #[192, 265, 293, 321, 334, 374, 435, 484, 524, 564, 616, 656, 708, 748, 776, 816, 844, 872, 900, 913, 926, 954, 982, 1010, 1050, 1063, 1091, 1131, 1159, 1199, 1239, 1279, 1331, 1371, 1399, 1455, 1519, 1599, 1627, 1735, 1775, 1803, 1816, 1829], 192, 0, 0, 0) from rfl)) (by decide) (by decide) (by decide) (by decide) ?_
        exact lc_38 G GR SF GT GW X E S hL I jR jFEQ jARJ jPTJ p1 p2 p3 p4 p5 (by omega) (by omega) (by omega) hk
      ·
        rw [gs]
        refine w_tabIn X.1 (dflt := 1854) (lo := 0) (hi := 43) (offs := #[192, 265, 293, 321, 334, 374, 435, 484, 524, 564, 616, 656, 708, 748, 776, 816, 844, 872, 900, 913, 926, 954, 982, 1010, 1050, 1063, 1091, 1131, 1159, 1199, 1239, 1279, 1331, 1371, 1399, 1455, 1519, 1599, 1627, 1735, 1775, 1803, 1816, 1829]) (len := 192) (off := 1735) (t := 1775) (ax_d X (show cdA 350 40 = some (.tableswitch 1854 0 43 #[192, 265, 293, 321, 334, 374, 435, 484, 524, 564, 616, 656, 708, 748, 776, 816, 844, 872, 900, 913, 926, 954, 982, 1010, 1050, 1063, 1091, 1131, 1159, 1199, 1239, 1279, 1331, 1371, 1399, 1455, 1519, 1599, 1627, 1735, 1775, 1803, 1816, 1829], 192, 0, 0, 0) from rfl)) (by decide) (by decide) (by decide) (by decide) ?_
        exact lc_39 G GR SF GT GW X E S hL I jR jFEQ jARJ jPTJ p1 p2 p3 p4 p5 (by omega) (by omega) (by omega) hk
      ·
        rw [gs]
        refine w_tabIn X.1 (dflt := 1854) (lo := 0) (hi := 43) (offs := #[192, 265, 293, 321, 334, 374, 435, 484, 524, 564, 616, 656, 708, 748, 776, 816, 844, 872, 900, 913, 926, 954, 982, 1010, 1050, 1063, 1091, 1131, 1159, 1199, 1239, 1279, 1331, 1371, 1399, 1455, 1519, 1599, 1627, 1735, 1775, 1803, 1816, 1829]) (len := 192) (off := 1775) (t := 1815) (ax_d X (show cdA 350 40 = some (.tableswitch 1854 0 43 #[192, 265, 293, 321, 334, 374, 435, 484, 524, 564, 616, 656, 708, 748, 776, 816, 844, 872, 900, 913, 926, 954, 982, 1010, 1050, 1063, 1091, 1131, 1159, 1199, 1239, 1279, 1331, 1371, 1399, 1455, 1519, 1599, 1627, 1735, 1775, 1803, 1816, 1829], 192, 0, 0, 0) from rfl)) (by decide) (by decide) (by decide) (by decide) ?_
        exact lc_40 G GR SF GT GW X E S hL I jR jFEQ jARJ jPTJ p1 p2 p3 p4 p5 (by omega) (by omega) (by omega) hk
      ·
        rw [gs]
        refine w_tabIn X.1 (dflt := 1854) (lo := 0) (hi := 43) (offs := #[192, 265, 293, 321, 334, 374, 435, 484, 524, 564, 616, 656, 708, 748, 776, 816, 844, 872, 900, 913, 926, 954, 982, 1010, 1050, 1063, 1091, 1131, 1159, 1199, 1239, 1279, 1331, 1371, 1399, 1455, 1519, 1599, 1627, 1735, 1775, 1803, 1816, 1829]) (len := 192) (off := 1803) (t := 1843) (ax_d X (show cdA 350 40 = some (.tableswitch 1854 0 43 #[192, 265, 293, 321, 334, 374, 435, 484, 524, 564, 616, 656, 708, 748, 776, 816, 844, 872, 900, 913, 926, 954, 982, 1010, 1050, 1063, 1091, 1131, 1159, 1199, 1239, 1279, 1331, 1371, 1399, 1455, 1519, 1599, 1627, 1735, 1775, 1803, 1816, 1829], 192, 0, 0, 0) from rfl)) (by decide) (by decide) (by decide) (by decide) ?_
        exact lc_41 G GR SF GT GW X E S hL I jR jFEQ jARJ jPTJ p1 p2 p3 p4 p5 (by omega) (by omega) (by omega) hk
      ·
        rw [gs]
        refine w_tabIn X.1 (dflt := 1854) (lo := 0) (hi := 43) (offs := #[192, 265, 293, 321, 334, 374, 435, 484, 524, 564, 616, 656, 708, 748, 776, 816, 844, 872, 900, 913, 926, 954, 982, 1010, 1050, 1063, 1091, 1131, 1159, 1199, 1239, 1279, 1331, 1371, 1399, 1455, 1519, 1599, 1627, 1735, 1775, 1803, 1816, 1829]) (len := 192) (off := 1816) (t := 1856) (ax_d X (show cdA 350 40 = some (.tableswitch 1854 0 43 #[192, 265, 293, 321, 334, 374, 435, 484, 524, 564, 616, 656, 708, 748, 776, 816, 844, 872, 900, 913, 926, 954, 982, 1010, 1050, 1063, 1091, 1131, 1159, 1199, 1239, 1279, 1331, 1371, 1399, 1455, 1519, 1599, 1627, 1735, 1775, 1803, 1816, 1829], 192, 0, 0, 0) from rfl)) (by decide) (by decide) (by decide) (by decide) ?_
        exact lc_42 G GR SF GT GW X E S hL I jR jFEQ jARJ jPTJ p1 p2 p3 p4 p5 (by omega) (by omega) (by omega) hk
      ·
        rw [gs]
        refine w_tabIn X.1 (dflt := 1854) (lo := 0) (hi := 43) (offs := #[192, 265, 293, 321, 334, 374, 435, 484, 524, 564, 616, 656, 708, 748, 776, 816, 844, 872, 900, 913, 926, 954, 982, 1010, 1050, 1063, 1091, 1131, 1159, 1199, 1239, 1279, 1331, 1371, 1399, 1455, 1519, 1599, 1627, 1735, 1775, 1803, 1816, 1829]) (len := 192) (off := 1829) (t := 1869) (ax_d X (show cdA 350 40 = some (.tableswitch 1854 0 43 #[192, 265, 293, 321, 334, 374, 435, 484, 524, 564, 616, 656, 708, 748, 776, 816, 844, 872, 900, 913, 926, 954, 982, 1010, 1050, 1063, 1091, 1131, 1159, 1199, 1239, 1279, 1331, 1371, 1399, 1455, 1519, 1599, 1627, 1735, 1775, 1803, 1816, 1829], 192, 0, 0, 0) from rfl)) (by decide) (by decide) (by decide) (by decide) ?_
        exact lc_43 G GR SF GT GW X E S hL I jR jFEQ jARJ jPTJ p1 p2 p3 p4 p5 (by omega) (by omega) (by omega) hk
      ·
        exact w_tabOut X.1 (dflt := 1854) (lo := 0) (hi := 43) (offs := #[192, 265, 293, 321, 334, 374, 435, 484, 524, 564, 616, 656, 708, 748, 776, 816, 844, 872, 900, 913, 926, 954, 982, 1010, 1050, 1063, 1091, 1131, 1159, 1199, 1239, 1279, 1331, 1371, 1399, 1455, 1519, 1599, 1627, 1735, 1775, 1803, 1816, 1829]) (len := 192) (t := 1894) (ax_d X (show cdA 350 40 = some (.tableswitch 1854 0 43 #[192, 265, 293, 321, 334, 374, 435, 484, 524, 564, 616, 656, 708, 748, 776, 816, 844, 872, 900, 913, 926, 954, 982, 1010, 1050, 1063, 1091, 1131, 1159, 1199, 1239, 1279, 1331, 1371, 1399, 1455, 1519, 1599, 1627, 1735, 1775, 1803, 1816, 1829], 192, 0, 0, 0) from rfl)) (by rw [zi ⟨by omega, by omega⟩]; omega) (by decide) (w_widen (ce' := 518 + 29 * m + 29) (sl' := 23524 + 222 * m + 222) (by omega) (by omega) (hk A s I jR jFEQ jARJ jPTJ p1 p2 p3 p4 p5))
end M88
