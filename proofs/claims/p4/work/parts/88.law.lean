/-! The law's loop: a call of class and model each round -/
/-- the script's int at i -/
def sc (xs : Nat → Int32) (i : Int) : Int := (xs i.toNat).toInt
theorem sc_rng {xs : Nat → Int32} {i : Int} : rng (sc xs i) := rng_to _
/-- the script, as the law's activation sees it -/
def SX (k : kx_T) (b L : Nat) (xs : Nat → Int32) : Prop := va_X b L xs (kS k) (kS k).heap ∧ b < (kS k).heap.size ∧ ¬ kF k b
section ZS
variable {k : kx_T} {mn pc : Nat} {dT : Nat → ClassId} {lv : List (Nat × Value)} {st : List Value} {ws : va_W} {ce sl a b0 b L : Nat} {z : Int} {xs : Nat → Int32}
theorem z_sld (X : AX k mn dT) (S : SX k b L xs) (hL : L ≤ 3072) {i : Int} (h : cdA mn pc = some (.iaload, 1, a, b0, z)) (hi : 0 ≤ i ∧ i < (L : Int)) (g : WS k (pc + 1) lv (.int (Int32.ofInt (sc xs i)) :: st) ws ce sl) : WS k pc lv (.int (Int32.ofInt i) :: .ref b :: st) ws ce sl := by
  have e : xs (Int32.ofInt i).toNatClampNeg = Int32.ofInt (sc xs i) := by
    rw [on_of hi.1, on_cl (by omega)]
    exact (ofi_to _).symm
  rw [on_of hi.1] at e ⊢
  refine w_sld X.1 S.1 S.2.1 S.2.2 (on_in (by omega) (by omega)) (ax_d X h) ?_
  rw [e]
  exact g
theorem z_slen (X : AX k mn dT) (S : SX k b L xs) (hL : L ≤ 3072) (h : cdA mn pc = some (.arraylength, 1, a, b0, z)) (g : WS k (pc + 1) lv (.int (Int32.ofInt (L : Int)) :: st) ws ce sl) : WS k pc lv (.ref b :: st) ws ce sl := by
  refine w_slen X.1 S.1 S.2.1 S.2.2 (ax_d X h) ?_
  have e : Int32.ofNat L = Int32.ofInt (L : Int) := by
    have h9 := on_of (z := (L : Int)) (by omega)
    have h8 : ((L : Int)).toNat = L := by omega
    rw [h8] at h9
    exact h9.symm
  rw [e]
  exact g
theorem z_lO {A : Nat → Nat} {s : PS} (X : AX k mn dT) (h : cdA mn pc = some (.laload, 1, 0, 0, 0)) (g : WS k (pc + 1) lv (.long (gD s 460 0) :: st) (Wd A dT s) ce sl) : WS k pc lv (.int (Int32.ofInt 0) :: .ref (A 517) :: st) (Wd A dT s) ce sl :=
  s_lald X 517 (n := 1) (a := 460) (i := 0) h (by decide) rfl (by decide) (by decide) g
theorem lcmp_0 {x y : Int64} : lg_cmp x y = 0 ↔ x = y := lg_cmp_eq x y
theorem z_lc {s : PS} {b : Int} (hb : rng b) (g : ∀ c : Int, rng c → ((c = 0 ∧ iO s = b) ∨ (c ≠ 0 ∧ iO s ≠ b)) → WS k pc lv (.int (Int32.ofInt c) :: st) ws ce sl) : WS k pc lv (.int (lg_cmp (gD s 460 0) (Int32.ofInt b).toInt64) :: st) ws ce sl := by
  have h9 := g (lg_cmp (gD s 460 0) (Int32.ofInt b).toInt64).toInt (rng_to _)
  rw [ofi_to] at h9
  refine h9 ?_
  have e1 : (Int32.ofInt b).toInt64.toInt = b := by rw [Int32.toInt_toInt64, zi hb]
  by_cases q : gD s 460 0 = (Int32.ofInt b).toInt64
  · refine Or.inl ⟨by rw [lcmp_0.mpr q]; rfl, ?_⟩
    show (gD s 460 0).toInt = b
    rw [q, e1]
  · refine Or.inr ⟨fun z => q (lcmp_0.mp (Int32.toInt_inj.mp (show _ = (0 : Int32).toInt from z))), fun z => q (Int64.toInt_inj.mp ?_)⟩
    rw [e1]
    exact z
end ZS
section M88
variable {l : Launch} {s0 : State} {D : va_G} {tys : List (ClassId × FieldType)} {a0 : Array Value} {A : Nat → Nat} {dT : Nat → ClassId} {s : PS}
theorem lc_0 (G : GX l s0 D tys a0 dT) (GR : RS0 s0) (SF : SF0 s0) (GT : TXs0 s0) (GW : TXw0 s0) {k : kx_T} (X : AX k 350 dT) (E : kL k = l ∧ kS0 k = s0 ∧ kD k = D ∧ kR k = room_1) {q1 L : Nat} {xs : Nat → Int32} (S : SX k q1 L xs) (hL : L ≤ 3072) (I : Bd s) (jR : RLx s) (jFEQ : FEQ s) (p1 : iI s 89 = 1) (p2 : iI s 12 ≤ 8) (p3 : iI s 0 = iI s 74) (p4 : iI s 9 = iI s 90) {i : Int} (hi : 0 ≤ i ∧ i + 6 ≤ (L : Int)) {ce sl : Nat} (hce : ce + 29 ≤ 601024) (hsl : sl + 222 ≤ 7293034) (hk : ∀ (A : Nat → Nat) (t : PS), Bd t → RLx t → FEQ t → iI t 89 = 1 → iI t 12 ≤ 8 → iI t 0 = iI t 74 → iI t 9 = iI t 90 → WS k 1894 [(0, .ref q1), (1, .ref (A 0)), (2, .ref (A 179)), (3, .ref (A 517)), (4, .int (Int32.ofInt i))] [] (Wd A dT t) (ce + 29) (sl + 222)) : WS k 232 [(0, .ref q1), (1, .ref (A 0)), (2, .ref (A 179)), (3, .ref (A 517)), (4, .int (Int32.ofInt i))] [] (Wd A dT s) ce sl := by
  have F : Fm [0, 73, 74] [0, 157] s s := fm_rf _ _ s
  have b1 : (0 : Int) ≤ iI s 0 ∧ iI s 0 ≤ 200 := I.1 0
  have b2 : (0 : Int) ≤ iI s 74 ∧ iI s 74 ≤ 200 := I.1 74
  have b3 : (0 : Int) ≤ iI s 9 ∧ iI s 9 ≤ 12 := I.1 9
  have b4 : (0 : Int) ≤ iI s 90 ∧ iI s 90 ≤ 12 := I.1 90
  have b5 : (0 : Int) ≤ iI s 12 ∧ iI s 12 ≤ 9 := I.1 12
  have b6 : (1 : Int) ≤ iI s 89 ∧ iI s 89 ≤ 8 := I.1 89
  refine z_aload_n X (x := A 0) (show cdA 350 232 = some (.aload_n 1, 1, 0, 0, 0) from rfl) (List.Mem.tail _ (List.Mem.head _)) ?_
  refine z_aload_n X (x := q1) (show cdA 350 233 = some (.aload_n 0, 1, 0, 0, 0) from rfl) (List.Mem.head _) ?_
  refine z_load X (x := i) (show cdA 350 234 = some (.iload 4, 2, 0, 0, 0) from rfl) (List.Mem.tail _ (List.Mem.tail _ (List.Mem.tail _ (List.Mem.tail _ (List.Mem.head _))))) ?_
  refine z_const X (show cdA 350 236 = some (.iconst 1, 1, 0, 0, 0) from rfl) ?_
  refine z_add X (show cdA 350 237 = some (.iadd, 1, 0, 0, 0) from rfl) ?_
  refine z_sld X S hL (show cdA 350 238 = some (.iaload, 1, 0, 0, 0) from rfl) (show 0 ≤ (i + 1) ∧ (i + 1) < (L : Int) by omega) ?_
  have sr7 : rng (sc xs (i + 1)) := sc_rng
  refine z_aload_n X (x := q1) (show cdA 350 239 = some (.aload_n 0, 1, 0, 0, 0) from rfl) (List.Mem.head _) ?_
  refine z_load X (x := i) (show cdA 350 240 = some (.iload 4, 2, 0, 0, 0) from rfl) (List.Mem.tail _ (List.Mem.tail _ (List.Mem.tail _ (List.Mem.tail _ (List.Mem.head _))))) ?_
  refine z_const X (show cdA 350 242 = some (.iconst 2, 1, 0, 0, 0) from rfl) ?_
  refine z_add X (show cdA 350 243 = some (.iadd, 1, 0, 0, 0) from rfl) ?_
  refine z_sld X S hL (show cdA 350 244 = some (.iaload, 1, 0, 0, 0) from rfl) (show 0 ≤ (i + 2) ∧ (i + 2) < (L : Int) by omega) ?_
  have sr8 : rng (sc xs (i + 2)) := sc_rng
  refine z_aload_n X (x := q1) (show cdA 350 245 = some (.aload_n 0, 1, 0, 0, 0) from rfl) (List.Mem.head _) ?_
  refine z_load X (x := i) (show cdA 350 246 = some (.iload 4, 2, 0, 0, 0) from rfl) (List.Mem.tail _ (List.Mem.tail _ (List.Mem.tail _ (List.Mem.tail _ (List.Mem.head _))))) ?_
  refine z_const X (show cdA 350 248 = some (.iconst 3, 1, 0, 0, 0) from rfl) ?_
  refine z_add X (show cdA 350 249 = some (.iadd, 1, 0, 0, 0) from rfl) ?_
  refine z_sld X S hL (show cdA 350 250 = some (.iaload, 1, 0, 0, 0) from rfl) (show 0 ≤ (i + 3) ∧ (i + 3) < (L : Int) by omega) ?_
  have sr9 : rng (sc xs (i + 3)) := sc_rng
  refine z_aload_n X (x := q1) (show cdA 350 251 = some (.aload_n 0, 1, 0, 0, 0) from rfl) (List.Mem.head _) ?_
  refine z_load X (x := i) (show cdA 350 252 = some (.iload 4, 2, 0, 0, 0) from rfl) (List.Mem.tail _ (List.Mem.tail _ (List.Mem.tail _ (List.Mem.tail _ (List.Mem.head _))))) ?_
  refine z_const X (show cdA 350 254 = some (.iconst 4, 1, 0, 0, 0) from rfl) ?_
  refine z_add X (show cdA 350 255 = some (.iadd, 1, 0, 0, 0) from rfl) ?_
  refine z_sld X S hL (show cdA 350 256 = some (.iaload, 1, 0, 0, 0) from rfl) (show 0 ≤ (i + 4) ∧ (i + 4) < (L : Int) by omega) ?_
  have sr10 : rng (sc xs (i + 4)) := sc_rng
  refine z_aload_n X (x := q1) (show cdA 350 257 = some (.aload_n 0, 1, 0, 0, 0) from rfl) (List.Mem.head _) ?_
  refine z_load X (x := i) (show cdA 350 258 = some (.iload 4, 2, 0, 0, 0) from rfl) (List.Mem.tail _ (List.Mem.tail _ (List.Mem.tail _ (List.Mem.tail _ (List.Mem.head _))))) ?_
  refine z_const X (show cdA 350 260 = some (.iconst 5, 1, 0, 0, 0) from rfl) ?_
  refine z_add X (show cdA 350 261 = some (.iadd, 1, 0, 0, 0) from rfl) ?_
  refine z_sld X S hL (show cdA 350 262 = some (.iaload, 1, 0, 0, 0) from rfl) (show 0 ≤ (i + 5) ∧ (i + 5) < (L : Int) by omega) ?_
  have sr11 : rng (sc xs (i + 5)) := sc_rng
  refine z_callV X 0 (rm := rmN 135) (As := [.int (Int32.ofInt (sc xs (i + 1))), .int (Int32.ofInt (sc xs (i + 2))), .int (Int32.ofInt (sc xs (i + 3))), .int (Int32.ofInt (sc xs (i + 4))), .int (Int32.ofInt (sc xs (i + 5)))]) (st := []) (show cdA 350 263 = some (.invokevirtual 136, 3, 135, 0, 0) from rfl) rfl (by decide) rfl (by rw [E.1, E.2.1, E.2.2.1]; exact cs_feed2 G I (by first | exact ⟨sr7.1, sr7.2⟩ | omega) (by first | exact ⟨sr8.1, sr8.2⟩ | omega) (by first | exact ⟨sr9.1, sr9.2⟩ | omega) (by first | exact ⟨sr10.1, sr10.2⟩ | omega) (by first | exact ⟨sr11.1, sr11.2⟩ | omega)) ⟨by rw [E.2.2.2]; exact (show 8 + 1 ≤ 2048 by omega), by rw [E.2.2.2]; exact (show 8 + (6 + 11) + 147 ≤ 84000 by omega), by rw [E.2.2.2]; exact (show ce + 0 ≤ 601024 by omega), by rw [E.2.2.2]; exact (show sl + 0 ≤ 7293034 by omega)⟩ (Nat.le_of_ble_eq_true rfl) (fun vv s12 hq => ?_) (fun ee s12 hq => ?_)
  rotate_left
  · obtain ⟨Is12, Fs12, e13, hv, hrs12, hps12⟩ := hq; cases hv
  obtain ⟨Is12, Fs12, e13, hv, hrs12, hps12⟩ := hq
  cases hv
  have Gs12 := fm_ts F Fs12 (by decide) (by decide)
  have JRLx_s12 : RLx s12 := RLx_fm Fs12 (by decide) jR
  have b14 : (0 : Int) ≤ iI s12 0 ∧ iI s12 0 ≤ 200 := Is12.1 0
  have ws12_74 : iI s12 74 = iI s 74 := fm_i Fs12 (by decide)
  have ws12_9 : iI s12 9 = iI s 9 := fm_i Fs12 (by decide)
  have ws12_90 : iI s12 90 = iI s 90 := fm_i Fs12 (by decide)
  have ws12_12 : iI s12 12 = iI s 12 := fm_i Fs12 (by decide)
  have ws12_89 : iI s12 89 = iI s 89 := fm_i Fs12 (by decide)
  have wos12 : iO s12 = iO s := fm_o Fs12 (by decide)
  show WS k 266 [(0, .ref q1), (1, .ref (A 0)), (2, .ref (A 179)), (3, .ref (A 517)), (4, .int (Int32.ofInt i))] [.int (Int32.ofInt e13)] (Wd A dT s12) ce sl
  refine w_pop X.1 (ax_d X (show cdA 350 266 = some (.pop, 1, 0, 0, 0) from rfl)) rfl ?_
  refine z_aload_n X (x := A 179) (show cdA 350 267 = some (.aload_n 2, 1, 0, 0, 0) from rfl) (List.Mem.tail _ (List.Mem.tail _ (List.Mem.head _))) ?_
  refine z_aload_n X (x := q1) (show cdA 350 268 = some (.aload_n 0, 1, 0, 0, 0) from rfl) (List.Mem.head _) ?_
  refine z_load X (x := i) (show cdA 350 269 = some (.iload 4, 2, 0, 0, 0) from rfl) (List.Mem.tail _ (List.Mem.tail _ (List.Mem.tail _ (List.Mem.tail _ (List.Mem.head _))))) ?_
  refine z_const X (show cdA 350 271 = some (.iconst 1, 1, 0, 0, 0) from rfl) ?_
  refine z_add X (show cdA 350 272 = some (.iadd, 1, 0, 0, 0) from rfl) ?_
  refine z_sld X S hL (show cdA 350 273 = some (.iaload, 1, 0, 0, 0) from rfl) (show 0 ≤ (i + 1) ∧ (i + 1) < (L : Int) by first | (clear hps12; omega) | omega) ?_
  have sr15 : rng (sc xs (i + 1)) := sc_rng
  refine z_aload_n X (x := q1) (show cdA 350 274 = some (.aload_n 0, 1, 0, 0, 0) from rfl) (List.Mem.head _) ?_
  refine z_load X (x := i) (show cdA 350 275 = some (.iload 4, 2, 0, 0, 0) from rfl) (List.Mem.tail _ (List.Mem.tail _ (List.Mem.tail _ (List.Mem.tail _ (List.Mem.head _))))) ?_
  refine z_const X (show cdA 350 277 = some (.iconst 2, 1, 0, 0, 0) from rfl) ?_
  refine z_add X (show cdA 350 278 = some (.iadd, 1, 0, 0, 0) from rfl) ?_
  refine z_sld X S hL (show cdA 350 279 = some (.iaload, 1, 0, 0, 0) from rfl) (show 0 ≤ (i + 2) ∧ (i + 2) < (L : Int) by first | (clear hps12; omega) | omega) ?_
  have sr16 : rng (sc xs (i + 2)) := sc_rng
  refine z_aload_n X (x := q1) (show cdA 350 280 = some (.aload_n 0, 1, 0, 0, 0) from rfl) (List.Mem.head _) ?_
  refine z_load X (x := i) (show cdA 350 281 = some (.iload 4, 2, 0, 0, 0) from rfl) (List.Mem.tail _ (List.Mem.tail _ (List.Mem.tail _ (List.Mem.tail _ (List.Mem.head _))))) ?_
  refine z_const X (show cdA 350 283 = some (.iconst 3, 1, 0, 0, 0) from rfl) ?_
  refine z_add X (show cdA 350 284 = some (.iadd, 1, 0, 0, 0) from rfl) ?_
  refine z_sld X S hL (show cdA 350 285 = some (.iaload, 1, 0, 0, 0) from rfl) (show 0 ≤ (i + 3) ∧ (i + 3) < (L : Int) by first | (clear hps12; omega) | omega) ?_
  have sr17 : rng (sc xs (i + 3)) := sc_rng
  refine z_aload_n X (x := q1) (show cdA 350 286 = some (.aload_n 0, 1, 0, 0, 0) from rfl) (List.Mem.head _) ?_
  refine z_load X (x := i) (show cdA 350 287 = some (.iload 4, 2, 0, 0, 0) from rfl) (List.Mem.tail _ (List.Mem.tail _ (List.Mem.tail _ (List.Mem.tail _ (List.Mem.head _))))) ?_
  refine z_const X (show cdA 350 289 = some (.iconst 4, 1, 0, 0, 0) from rfl) ?_
  refine z_add X (show cdA 350 290 = some (.iadd, 1, 0, 0, 0) from rfl) ?_
  refine z_sld X S hL (show cdA 350 291 = some (.iaload, 1, 0, 0, 0) from rfl) (show 0 ≤ (i + 4) ∧ (i + 4) < (L : Int) by first | (clear hps12; omega) | omega) ?_
  have sr18 : rng (sc xs (i + 4)) := sc_rng
  refine z_aload_n X (x := q1) (show cdA 350 292 = some (.aload_n 0, 1, 0, 0, 0) from rfl) (List.Mem.head _) ?_
  refine z_load X (x := i) (show cdA 350 293 = some (.iload 4, 2, 0, 0, 0) from rfl) (List.Mem.tail _ (List.Mem.tail _ (List.Mem.tail _ (List.Mem.tail _ (List.Mem.head _))))) ?_
  refine z_const X (show cdA 350 295 = some (.iconst 5, 1, 0, 0, 0) from rfl) ?_
  refine z_add X (show cdA 350 296 = some (.iadd, 1, 0, 0, 0) from rfl) ?_
  refine z_sld X S hL (show cdA 350 297 = some (.iaload, 1, 0, 0, 0) from rfl) (show 0 ≤ (i + 5) ∧ (i + 5) < (L : Int) by first | (clear hps12; omega) | omega) ?_
  have sr19 : rng (sc xs (i + 5)) := sc_rng
  refine z_callV X 179 (rm := rmN 191) (As := [.int (Int32.ofInt (sc xs (i + 1))), .int (Int32.ofInt (sc xs (i + 2))), .int (Int32.ofInt (sc xs (i + 3))), .int (Int32.ofInt (sc xs (i + 4))), .int (Int32.ofInt (sc xs (i + 5)))]) (st := []) (show cdA 350 298 = some (.invokevirtual 140, 3, 191, 0, 0) from rfl) rfl (by decide) rfl (by rw [E.1, E.2.1, E.2.2.1]; exact k_feed2 G Is12 (by first | exact ⟨sr15.1, sr15.2⟩ | omega) (by first | exact ⟨sr16.1, sr16.2⟩ | omega) (by first | exact ⟨sr17.1, sr17.2⟩ | omega) (by first | exact ⟨sr18.1, sr18.2⟩ | omega) (by first | exact ⟨sr19.1, sr19.2⟩ | omega)) ⟨by rw [E.2.2.2]; exact (show 6 + 1 ≤ 2048 by first | (clear hps12; omega) | omega), by rw [E.2.2.2]; exact (show 8 + (8 + 11) + 100 ≤ 84000 by first | (clear hps12; omega) | omega), by rw [E.2.2.2]; exact (show ce + 0 ≤ 601024 by first | (clear hps12; omega) | omega), by rw [E.2.2.2]; exact (show sl + 0 ≤ 7293034 by first | (clear hps12; omega) | omega)⟩ (Nat.le_of_ble_eq_true rfl) (fun vv s20 hq => ?_) (fun ee s20 hq => ?_)
  rotate_left
  · obtain ⟨Is20, Fs20, e21, hv, hrs20, hps20⟩ := hq; cases hv
  obtain ⟨Is20, Fs20, e21, hv, hrs20, hps20⟩ := hq
  cases hv
  have Gs20 := fm_ts Gs12 Fs20 (by decide) (by decide)
  have JRLx_s20 : RLx s20 := RLx_fm Fs20 (by decide) JRLx_s12
  have ws20_0 : iI s20 0 = iI s12 0 := fm_i Fs20 (by decide)
  have b22 : (0 : Int) ≤ iI s20 74 ∧ iI s20 74 ≤ 200 := Is20.1 74
  have ws20_9 : iI s20 9 = iI s12 9 := fm_i Fs20 (by decide)
  have ws20_90 : iI s20 90 = iI s12 90 := fm_i Fs20 (by decide)
  have ws20_12 : iI s20 12 = iI s12 12 := fm_i Fs20 (by decide)
  have ws20_89 : iI s20 89 = iI s12 89 := fm_i Fs20 (by decide)
  have wos20 : iO s20 = iO s12 := fm_o Fs20 (by decide)
  show WS k 301 [(0, .ref q1), (1, .ref (A 0)), (2, .ref (A 179)), (3, .ref (A 517)), (4, .int (Int32.ofInt i))] [.int (Int32.ofInt e21)] (Wd A dT s20) ce sl
  rcases hps12 with cc | cc
  ·
    rcases hps20 with mm | mm
    ·
      have jq23 : FEQ s20 := feq_up jFEQ cc.2.2.2 (sam_fm Fs12 (by decide)) mm.2.2.2 (sam_fm Fs20 (by decide)) (by first | (clear hps20 hps12; omega) | (clear hps12; omega) | omega) (by first | (clear hps20 hps12; omega) | (clear hps12; omega) | omega)
      refine w_pop X.1 (ax_d X (show cdA 350 301 = some (.pop, 1, 0, 0, 0) from rfl)) rfl ?_
      refine z_goto X (t := 1894) (show cdA 350 302 = some (.goto 1592, 3, 0, 0, 0) from rfl) (by decide) ?_
      refine w_widen (ce' := ce + 29) (sl' := sl + 222) (by first | (clear hps20 hps12; omega) | (clear hps12; omega) | omega) (by first | (clear hps20 hps12; omega) | (clear hps12; omega) | omega) ?_
      exact WS_lv (lv := [(0, .ref q1), (1, .ref (A 0)), (2, .ref (A 179)), (3, .ref (A 517)), (4, .int (Int32.ofInt i))]) (List.forall_mem_cons.mpr ⟨(List.Mem.head _), (List.forall_mem_cons.mpr ⟨(List.Mem.tail _ (List.Mem.head _)), (List.forall_mem_cons.mpr ⟨(List.Mem.tail _ (List.Mem.tail _ (List.Mem.head _))), (List.forall_mem_cons.mpr ⟨(List.Mem.tail _ (List.Mem.tail _ (List.Mem.tail _ (List.Mem.head _)))), (List.forall_mem_cons.mpr ⟨(List.Mem.tail _ (List.Mem.tail _ (List.Mem.tail _ (List.Mem.tail _ (List.Mem.head _))))), (fun q h => absurd h List.not_mem_nil)⟩)⟩)⟩)⟩)⟩) (hk A _ Is20 JRLx_s20 jq23 (by first | (clear hps20 hps12; omega) | (clear hps12; omega) | omega) (by first | (clear hps20 hps12; omega) | (clear hps12; omega) | omega) (by first | (clear hps20 hps12; omega) | (clear hps12; omega) | omega) (by first | (clear hps20 hps12; omega) | (clear hps12; omega) | omega))
    ·
      exfalso
      omega
  ·
    rcases hps20 with mm | mm
    ·
      exfalso
      omega
    ·
      have jq24 : FEQ s20 := feq_sam jFEQ (sam_ts (sam_fm Fs12 (by decide)) mm.2.2.2) (sam_ts cc.2.2.2 (sam_fm Fs20 (by decide)))
      refine w_pop X.1 (ax_d X (show cdA 350 301 = some (.pop, 1, 0, 0, 0) from rfl)) rfl ?_
      refine z_goto X (t := 1894) (show cdA 350 302 = some (.goto 1592, 3, 0, 0, 0) from rfl) (by decide) ?_
      refine w_widen (ce' := ce + 29) (sl' := sl + 222) (by first | (clear hps20 hps12; omega) | (clear hps12; omega) | omega) (by first | (clear hps20 hps12; omega) | (clear hps12; omega) | omega) ?_
      exact WS_lv (lv := [(0, .ref q1), (1, .ref (A 0)), (2, .ref (A 179)), (3, .ref (A 517)), (4, .int (Int32.ofInt i))]) (List.forall_mem_cons.mpr ⟨(List.Mem.head _), (List.forall_mem_cons.mpr ⟨(List.Mem.tail _ (List.Mem.head _)), (List.forall_mem_cons.mpr ⟨(List.Mem.tail _ (List.Mem.tail _ (List.Mem.head _))), (List.forall_mem_cons.mpr ⟨(List.Mem.tail _ (List.Mem.tail _ (List.Mem.tail _ (List.Mem.head _)))), (List.forall_mem_cons.mpr ⟨(List.Mem.tail _ (List.Mem.tail _ (List.Mem.tail _ (List.Mem.tail _ (List.Mem.head _))))), (fun q h => absurd h List.not_mem_nil)⟩)⟩)⟩)⟩)⟩) (hk A _ Is20 JRLx_s20 jq24 (by first | (clear hps20 hps12; omega) | (clear hps12; omega) | omega) (by first | (clear hps20 hps12; omega) | (clear hps12; omega) | omega) (by first | (clear hps20 hps12; omega) | (clear hps12; omega) | omega) (by first | (clear hps20 hps12; omega) | (clear hps12; omega) | omega))
theorem lc_1 (G : GX l s0 D tys a0 dT) (GR : RS0 s0) (SF : SF0 s0) (GT : TXs0 s0) (GW : TXw0 s0) {k : kx_T} (X : AX k 350 dT) (E : kL k = l ∧ kS0 k = s0 ∧ kD k = D ∧ kR k = room_1) {q1 L : Nat} {xs : Nat → Int32} (S : SX k q1 L xs) (hL : L ≤ 3072) (I : Bd s) (jR : RLx s) (jFEQ : FEQ s) (p1 : iI s 89 = 1) (p2 : iI s 12 ≤ 8) (p3 : iI s 0 = iI s 74) (p4 : iI s 9 = iI s 90) {i : Int} (hi : 0 ≤ i ∧ i + 6 ≤ (L : Int)) {ce sl : Nat} (hce : ce + 29 ≤ 601024) (hsl : sl + 222 ≤ 7293034) (hk : ∀ (A : Nat → Nat) (t : PS), Bd t → RLx t → FEQ t → iI t 89 = 1 → iI t 12 ≤ 8 → iI t 0 = iI t 74 → iI t 9 = iI t 90 → WS k 1894 [(0, .ref q1), (1, .ref (A 0)), (2, .ref (A 179)), (3, .ref (A 517)), (4, .int (Int32.ofInt i))] [] (Wd A dT t) (ce + 29) (sl + 222)) : WS k 305 [(0, .ref q1), (1, .ref (A 0)), (2, .ref (A 179)), (3, .ref (A 517)), (4, .int (Int32.ofInt i))] [] (Wd A dT s) ce sl := by
  have F : Fm [11, 9, 10, 2, 4, 6, 5, 1, 3, 0, 7, 8, 73, 74, 76, 90, 91, 77, 75, 78, 79, 80, 81] [15, 1, 2, 6, 1003, 1004, 1005, 1007, 1460, 165, 162, 166, 167, 168, 169, 170, 171, 172, 173, 174, 175, 176, 177, 178, 179, 180, 181, 182, 183, 184, 185, 186, 187, 188, 189] s s := fm_rf _ _ s
  have b1 : (0 : Int) ≤ iI s 0 ∧ iI s 0 ≤ 200 := I.1 0
  have b2 : (0 : Int) ≤ iI s 74 ∧ iI s 74 ≤ 200 := I.1 74
  have b3 : (0 : Int) ≤ iI s 9 ∧ iI s 9 ≤ 12 := I.1 9
  have b4 : (0 : Int) ≤ iI s 90 ∧ iI s 90 ≤ 12 := I.1 90
  have b5 : (0 : Int) ≤ iI s 12 ∧ iI s 12 ≤ 9 := I.1 12
  have b6 : (1 : Int) ≤ iI s 89 ∧ iI s 89 ≤ 8 := I.1 89
  refine z_aload_n X (x := A 0) (show cdA 350 305 = some (.aload_n 1, 1, 0, 0, 0) from rfl) (List.Mem.tail _ (List.Mem.head _)) ?_
  refine z_aload_n X (x := q1) (show cdA 350 306 = some (.aload_n 0, 1, 0, 0, 0) from rfl) (List.Mem.head _) ?_
  refine z_load X (x := i) (show cdA 350 307 = some (.iload 4, 2, 0, 0, 0) from rfl) (List.Mem.tail _ (List.Mem.tail _ (List.Mem.tail _ (List.Mem.tail _ (List.Mem.head _))))) ?_
  refine z_const X (show cdA 350 309 = some (.iconst 1, 1, 0, 0, 0) from rfl) ?_
  refine z_add X (show cdA 350 310 = some (.iadd, 1, 0, 0, 0) from rfl) ?_
  refine z_sld X S hL (show cdA 350 311 = some (.iaload, 1, 0, 0, 0) from rfl) (show 0 ≤ (i + 1) ∧ (i + 1) < (L : Int) by omega) ?_
  have sr7 : rng (sc xs (i + 1)) := sc_rng
  refine z_aload_n X (x := A 517) (show cdA 350 312 = some (.aload_n 3, 1, 0, 0, 0) from rfl) (List.Mem.tail _ (List.Mem.tail _ (List.Mem.tail _ (List.Mem.head _)))) ?_
  refine z_callL X (rm := rmN 314) (As := [.ref (A 0), .int (Int32.ofInt (sc xs (i + 1))), .ref (A 517)]) (st := []) (show cdA 350 313 = some (.invokestatic 141, 3, 314, 6, 0) from rfl) (by decide) rfl (by rw [E.1, E.2.1, E.2.2.1]; exact lw_stream2 (B := (fun i => iC s 0 i)) G I (fun _ _ => rfl) (by omega)) ⟨by rw [E.2.2.2]; exact (show 11 + 1 ≤ 2048 by omega), by rw [E.2.2.2]; exact (show 8 + (4 + 11) + 213 ≤ 84000 by omega), by rw [E.2.2.2]; exact (show ce + 1 ≤ 601024 by omega), by rw [E.2.2.2]; exact (show sl + 6 ≤ 7293034 by omega)⟩ (Nat.le_of_ble_eq_true rfl) (fun vv A s8 hA2 hq => ?_) (fun ee A s8 hA2 hq => ?_)
  rotate_left
  · obtain ⟨Is8, Fs8, e9, hv, hrs8, hps8⟩ := hq; cases hv
  obtain ⟨Is8, Fs8, e9, hv, hrs8, hps8⟩ := hq
  cases hv
  rw [← hA2 0 (by decide)]
  rw [← hA2 179 (by decide)]
  rw [← hA2 517 (by decide)]
  have Gs8 := fm_ts F Fs8 (by decide) (by decide)
  have JRLx_s8 : RLx s8 := RLx_fm Fs8 (by decide) jR
  have JFEQ_s8 : FEQ s8 := FEQ_fm Fs8 (by decide) jFEQ
  have JBYA_s8 : BYA (fun i => iC s 0 i) s8 := BYA_fm Fs8 (by decide) (fun _ _ => rfl)
  have b10 : (0 : Int) ≤ iI s8 0 ∧ iI s8 0 ≤ 200 := Is8.1 0
  have ws8_74 : iI s8 74 = iI s 74 := fm_i Fs8 (by decide)
  have b11 : (0 : Int) ≤ iI s8 9 ∧ iI s8 9 ≤ 12 := Is8.1 9
  have ws8_90 : iI s8 90 = iI s 90 := fm_i Fs8 (by decide)
  have ws8_12 : iI s8 12 = iI s 12 := fm_i Fs8 (by decide)
  have ws8_89 : iI s8 89 = iI s 89 := fm_i Fs8 (by decide)
  show WS k 316 [(0, .ref q1), (1, .ref (A 0)), (2, .ref (A 179)), (3, .ref (A 517)), (4, .int (Int32.ofInt i))] [.int (Int32.ofInt e9)] (Wd A dT s8) (ce + 1) (sl + 6)
  refine z_store X (lv' := [(5, .int (Int32.ofInt e9)), (0, .ref q1), (1, .ref (A 0)), (2, .ref (A 179)), (3, .ref (A 517)), (4, .int (Int32.ofInt i))]) (show cdA 350 316 = some (.istore 5, 2, 0, 0, 0) from rfl) (by decide) (fun _ h => h) ?_
  refine z_aload_n X (x := A 179) (show cdA 350 318 = some (.aload_n 2, 1, 0, 0, 0) from rfl) (List.Mem.tail _ (List.Mem.tail _ (List.Mem.tail _ (List.Mem.head _)))) ?_
  refine z_aload_n X (x := q1) (show cdA 350 319 = some (.aload_n 0, 1, 0, 0, 0) from rfl) (List.Mem.tail _ (List.Mem.head _)) ?_
  refine z_load X (x := i) (show cdA 350 320 = some (.iload 4, 2, 0, 0, 0) from rfl) (List.Mem.tail _ (List.Mem.tail _ (List.Mem.tail _ (List.Mem.tail _ (List.Mem.tail _ (List.Mem.head _)))))) ?_
  refine z_const X (show cdA 350 322 = some (.iconst 1, 1, 0, 0, 0) from rfl) ?_
  refine z_add X (show cdA 350 323 = some (.iadd, 1, 0, 0, 0) from rfl) ?_
  refine z_sld X S hL (show cdA 350 324 = some (.iaload, 1, 0, 0, 0) from rfl) (show 0 ≤ (i + 1) ∧ (i + 1) < (L : Int) by first | (clear hps8; omega) | omega) ?_
  have sr12 : rng (sc xs (i + 1)) := sc_rng
  have hFD : FDA (fun i => iC s 0 i) s8 := fun i hi => (JFEQ_s8 i hi).trans (fm_c Fs8 (by decide))
  refine z_callV X 179 (rm := rmN 200) (As := [.int (Int32.ofInt (sc xs (i + 1)))]) (st := []) (show cdA 350 325 = some (.invokevirtual 146, 3, 200, 0, 0) from rfl) rfl (by decide) rfl (by rw [E.1, E.2.1, E.2.2.1]; exact k_stream2 (B := (fun i => iC s 0 i)) G Is8 JRLx_s8 hFD (by first | exact ⟨sr12.1, sr12.2⟩ | omega)) ⟨by rw [E.2.2.2]; exact (show 10 + 1 ≤ 2048 by first | (clear hps8; omega) | omega), by rw [E.2.2.2]; exact (show 8 + (3 + 11) + 191 ≤ 84000 by first | (clear hps8; omega) | omega), by rw [E.2.2.2]; exact (show (ce + 1) + 0 ≤ 601024 by first | (clear hps8; omega) | omega), by rw [E.2.2.2]; exact (show (sl + 6) + 0 ≤ 7293034 by first | (clear hps8; omega) | omega)⟩ (Nat.le_of_ble_eq_true rfl) (fun vv s13 hq => ?_) (fun ee s13 hq => ?_)
  rotate_left
  · obtain ⟨Is13, Fs13, JRLx_s13, JFDA_s13, e14, hv, hrs13, hps13⟩ := hq; cases hv
  obtain ⟨Is13, Fs13, JRLx_s13, JFDA_s13, e14, hv, hrs13, hps13⟩ := hq
  cases hv
  have Gs13 := fm_ts Gs8 Fs13 (by decide) (by decide)
  have JFEQ_s13 : FEQ s13 := FEQ_fm Fs13 (by decide) JFEQ_s8
  have JFDA_s13 : FDA (fun i => iC s 0 i) s13 := FDA_fm Fs13 (by decide) hFD
  have ws13_0 : iI s13 0 = iI s8 0 := fm_i Fs13 (by decide)
  have b15 : (0 : Int) ≤ iI s13 74 ∧ iI s13 74 ≤ 200 := Is13.1 74
  have ws13_9 : iI s13 9 = iI s8 9 := fm_i Fs13 (by decide)
  have b16 : (0 : Int) ≤ iI s13 90 ∧ iI s13 90 ≤ 12 := Is13.1 90
  have ws13_12 : iI s13 12 = iI s8 12 := fm_i Fs13 (by decide)
  have ws13_89 : iI s13 89 = iI s8 89 := fm_i Fs13 (by decide)
  have wos13 : iO s13 = iO s8 := fm_o Fs13 (by decide)
  show WS k 328 [(5, .int (Int32.ofInt e9)), (0, .ref q1), (1, .ref (A 0)), (2, .ref (A 179)), (3, .ref (A 517)), (4, .int (Int32.ofInt i))] [.int (Int32.ofInt e14)] (Wd A dT s13) (ce + 1) (sl + 6)
  rcases hps8 with cc | cc
  ·
    rcases hps13 with mm | mm
    ·
      have rq17 := str_eq2 cc.2.2.2.2.2 mm.2 (by first | (clear hps13 hps8; omega) | (clear hps8; omega) | omega)
      refine z_store X (lv' := [(6, .int (Int32.ofInt e14)), (5, .int (Int32.ofInt e9)), (0, .ref q1), (1, .ref (A 0)), (2, .ref (A 179)), (3, .ref (A 517)), (4, .int (Int32.ofInt i))]) (show cdA 350 328 = some (.istore 6, 2, 0, 0, 0) from rfl) (by decide) (fun _ h => h) ?_
      refine z_goto X (t := 1894) (show cdA 350 330 = some (.goto 1564, 3, 0, 0, 0) from rfl) (by decide) ?_
      refine w_widen (ce' := ce + 29) (sl' := sl + 222) (by first | (clear hps13 hps8; omega) | (clear hps8; omega) | omega) (by first | (clear hps13 hps8; omega) | (clear hps8; omega) | omega) ?_
      exact WS_lv (lv := [(0, .ref q1), (1, .ref (A 0)), (2, .ref (A 179)), (3, .ref (A 517)), (4, .int (Int32.ofInt i))]) (List.forall_mem_cons.mpr ⟨(List.Mem.tail _ (List.Mem.tail _ (List.Mem.head _))), (List.forall_mem_cons.mpr ⟨(List.Mem.tail _ (List.Mem.tail _ (List.Mem.tail _ (List.Mem.head _)))), (List.forall_mem_cons.mpr ⟨(List.Mem.tail _ (List.Mem.tail _ (List.Mem.tail _ (List.Mem.tail _ (List.Mem.head _))))), (List.forall_mem_cons.mpr ⟨(List.Mem.tail _ (List.Mem.tail _ (List.Mem.tail _ (List.Mem.tail _ (List.Mem.tail _ (List.Mem.head _)))))), (List.forall_mem_cons.mpr ⟨(List.Mem.tail _ (List.Mem.tail _ (List.Mem.tail _ (List.Mem.tail _ (List.Mem.tail _ (List.Mem.tail _ (List.Mem.head _))))))), (fun q h => absurd h List.not_mem_nil)⟩)⟩)⟩)⟩)⟩) (hk A _ Is13 JRLx_s13 JFEQ_s13 (by first | (clear hps13 hps8; omega) | (clear hps8; omega) | omega) (by first | (clear hps13 hps8; omega) | (clear hps8; omega) | omega) (by first | (clear hps13 hps8; omega) | (clear hps8; omega) | omega) (by first | (clear hps13 hps8; omega) | (clear hps8; omega) | omega))
    ·
      exfalso
      omega
  ·
    rcases hps13 with mm | mm
    ·
      exfalso
      omega
    ·
      refine z_store X (lv' := [(6, .int (Int32.ofInt e14)), (5, .int (Int32.ofInt e9)), (0, .ref q1), (1, .ref (A 0)), (2, .ref (A 179)), (3, .ref (A 517)), (4, .int (Int32.ofInt i))]) (show cdA 350 328 = some (.istore 6, 2, 0, 0, 0) from rfl) (by decide) (fun _ h => h) ?_
      refine z_goto X (t := 1894) (show cdA 350 330 = some (.goto 1564, 3, 0, 0, 0) from rfl) (by decide) ?_
      refine w_widen (ce' := ce + 29) (sl' := sl + 222) (by first | (clear hps13 hps8; omega) | (clear hps8; omega) | omega) (by first | (clear hps13 hps8; omega) | (clear hps8; omega) | omega) ?_
      exact WS_lv (lv := [(0, .ref q1), (1, .ref (A 0)), (2, .ref (A 179)), (3, .ref (A 517)), (4, .int (Int32.ofInt i))]) (List.forall_mem_cons.mpr ⟨(List.Mem.tail _ (List.Mem.tail _ (List.Mem.head _))), (List.forall_mem_cons.mpr ⟨(List.Mem.tail _ (List.Mem.tail _ (List.Mem.tail _ (List.Mem.head _)))), (List.forall_mem_cons.mpr ⟨(List.Mem.tail _ (List.Mem.tail _ (List.Mem.tail _ (List.Mem.tail _ (List.Mem.head _))))), (List.forall_mem_cons.mpr ⟨(List.Mem.tail _ (List.Mem.tail _ (List.Mem.tail _ (List.Mem.tail _ (List.Mem.tail _ (List.Mem.head _)))))), (List.forall_mem_cons.mpr ⟨(List.Mem.tail _ (List.Mem.tail _ (List.Mem.tail _ (List.Mem.tail _ (List.Mem.tail _ (List.Mem.tail _ (List.Mem.head _))))))), (fun q h => absurd h List.not_mem_nil)⟩)⟩)⟩)⟩)⟩) (hk A _ Is13 JRLx_s13 JFEQ_s13 (by first | (clear hps13 hps8; omega) | (clear hps8; omega) | omega) (by first | (clear hps13 hps8; omega) | (clear hps8; omega) | omega) (by first | (clear hps13 hps8; omega) | (clear hps8; omega) | omega) (by first | (clear hps13 hps8; omega) | (clear hps8; omega) | omega))
theorem lc_2 (G : GX l s0 D tys a0 dT) (GR : RS0 s0) (SF : SF0 s0) (GT : TXs0 s0) (GW : TXw0 s0) {k : kx_T} (X : AX k 350 dT) (E : kL k = l ∧ kS0 k = s0 ∧ kD k = D ∧ kR k = room_1) {q1 L : Nat} {xs : Nat → Int32} (S : SX k q1 L xs) (hL : L ≤ 3072) (I : Bd s) (jR : RLx s) (jFEQ : FEQ s) (p1 : iI s 89 = 1) (p2 : iI s 12 ≤ 8) (p3 : iI s 0 = iI s 74) (p4 : iI s 9 = iI s 90) {i : Int} (hi : 0 ≤ i ∧ i + 6 ≤ (L : Int)) {ce sl : Nat} (hce : ce + 29 ≤ 601024) (hsl : sl + 222 ≤ 7293034) (hk : ∀ (A : Nat → Nat) (t : PS), Bd t → RLx t → FEQ t → iI t 89 = 1 → iI t 12 ≤ 8 → iI t 0 = iI t 74 → iI t 9 = iI t 90 → WS k 1894 [(0, .ref q1), (1, .ref (A 0)), (2, .ref (A 179)), (3, .ref (A 517)), (4, .int (Int32.ofInt i))] [] (Wd A dT t) (ce + 29) (sl + 222)) : WS k 333 [(0, .ref q1), (1, .ref (A 0)), (2, .ref (A 179)), (3, .ref (A 517)), (4, .int (Int32.ofInt i))] [] (Wd A dT s) ce sl := by
  have F : Fm [2, 4, 6, 5, 7, 8, 19, 16, 17, 18, 12, 13, 14, 15, 1, 3, 0, 73, 74, 76, 82, 83, 84, 85, 77, 75, 78, 79, 80, 81, 86, 87, 88] [16, 17, 18, 19, 1460, 160, 159, 158] s s := fm_rf _ _ s
  have b1 : (0 : Int) ≤ iI s 0 ∧ iI s 0 ≤ 200 := I.1 0
  have b2 : (0 : Int) ≤ iI s 74 ∧ iI s 74 ≤ 200 := I.1 74
  have b3 : (0 : Int) ≤ iI s 9 ∧ iI s 9 ≤ 12 := I.1 9
  have b4 : (0 : Int) ≤ iI s 90 ∧ iI s 90 ≤ 12 := I.1 90
  have b5 : (0 : Int) ≤ iI s 12 ∧ iI s 12 ≤ 9 := I.1 12
  have b6 : (1 : Int) ≤ iI s 89 ∧ iI s 89 ≤ 8 := I.1 89
  refine z_aload_n X (x := A 0) (show cdA 350 333 = some (.aload_n 1, 1, 0, 0, 0) from rfl) (List.Mem.tail _ (List.Mem.head _)) ?_
  refine z_aload_n X (x := q1) (show cdA 350 334 = some (.aload_n 0, 1, 0, 0, 0) from rfl) (List.Mem.head _) ?_
  refine z_load X (x := i) (show cdA 350 335 = some (.iload 4, 2, 0, 0, 0) from rfl) (List.Mem.tail _ (List.Mem.tail _ (List.Mem.tail _ (List.Mem.tail _ (List.Mem.head _))))) ?_
  refine z_const X (show cdA 350 337 = some (.iconst 1, 1, 0, 0, 0) from rfl) ?_
  refine z_add X (show cdA 350 338 = some (.iadd, 1, 0, 0, 0) from rfl) ?_
  refine z_sld X S hL (show cdA 350 339 = some (.iaload, 1, 0, 0, 0) from rfl) (show 0 ≤ (i + 1) ∧ (i + 1) < (L : Int) by omega) ?_
  have sr7 : rng (sc xs (i + 1)) := sc_rng
  refine z_aload_n X (x := A 517) (show cdA 350 340 = some (.aload_n 3, 1, 0, 0, 0) from rfl) (List.Mem.tail _ (List.Mem.tail _ (List.Mem.tail _ (List.Mem.head _)))) ?_
  refine z_callL X (rm := rmN 315) (As := [.ref (A 0), .int (Int32.ofInt (sc xs (i + 1))), .ref (A 517)]) (st := []) (show cdA 350 341 = some (.invokestatic 147, 3, 315, 6, 0) from rfl) (by decide) rfl (by rw [E.1, E.2.1, E.2.2.1]; exact lw_rules3 (B := (fun i => iC s 0 i)) G SF GW I (fun _ _ => rfl) (by omega) (by omega)) ⟨by rw [E.2.2.2]; exact (show 71 + 1 ≤ 2048 by omega), by rw [E.2.2.2]; exact (show 8 + (4 + 11) + 3060 ≤ 84000 by omega), by rw [E.2.2.2]; exact (show ce + 1 ≤ 601024 by omega), by rw [E.2.2.2]; exact (show sl + 6 ≤ 7293034 by omega)⟩ (Nat.le_of_ble_eq_true rfl) (fun vv A s8 hA2 hq => ?_) (fun ee A s8 hA2 hq => ?_)
  rotate_left
  · obtain ⟨Is8, Fs8, e9, hv, hrs8, hps8⟩ := hq; cases hv
  obtain ⟨Is8, Fs8, e9, hv, hrs8, hps8⟩ := hq
  have hps8p := hps8.2
  cases hv
  rw [← hA2 0 (by decide)]
  rw [← hA2 179 (by decide)]
  rw [← hA2 517 (by decide)]
  have Gs8 := fm_ts F Fs8 (by decide) (by decide)
  have JRLx_s8 : RLx s8 := RLx_fm Fs8 (by decide) jR
  have JFEQ_s8 : FEQ s8 := FEQ_fm Fs8 (by decide) jFEQ
  have JBYA_s8 : BYA (fun i => iC s 0 i) s8 := BYA_fm Fs8 (by decide) (fun _ _ => rfl)
  have b10 : (0 : Int) ≤ iI s8 0 ∧ iI s8 0 ≤ 200 := Is8.1 0
  have ws8_74 : iI s8 74 = iI s 74 := fm_i Fs8 (by decide)
  have ws8_9 : iI s8 9 = iI s 9 := fm_i Fs8 (by decide)
  have ws8_90 : iI s8 90 = iI s 90 := fm_i Fs8 (by decide)
  have b11 : (0 : Int) ≤ iI s8 12 ∧ iI s8 12 ≤ 9 := Is8.1 12
  have ws8_89 : iI s8 89 = iI s 89 := fm_i Fs8 (by decide)
  show WS k 344 [(0, .ref q1), (1, .ref (A 0)), (2, .ref (A 179)), (3, .ref (A 517)), (4, .int (Int32.ofInt i))] [.int (Int32.ofInt e9)] (Wd A dT s8) (ce + 1) (sl + 6)
  refine z_store X (lv' := [(5, .int (Int32.ofInt e9)), (0, .ref q1), (1, .ref (A 0)), (2, .ref (A 179)), (3, .ref (A 517)), (4, .int (Int32.ofInt i))]) (show cdA 350 344 = some (.istore 5, 2, 0, 0, 0) from rfl) (by decide) (fun _ h => h) ?_
  refine z_aload_n X (x := A 179) (show cdA 350 346 = some (.aload_n 2, 1, 0, 0, 0) from rfl) (List.Mem.tail _ (List.Mem.tail _ (List.Mem.tail _ (List.Mem.head _)))) ?_
  refine z_aload_n X (x := q1) (show cdA 350 347 = some (.aload_n 0, 1, 0, 0, 0) from rfl) (List.Mem.tail _ (List.Mem.head _)) ?_
  refine z_load X (x := i) (show cdA 350 348 = some (.iload 4, 2, 0, 0, 0) from rfl) (List.Mem.tail _ (List.Mem.tail _ (List.Mem.tail _ (List.Mem.tail _ (List.Mem.tail _ (List.Mem.head _)))))) ?_
  refine z_const X (show cdA 350 350 = some (.iconst 1, 1, 0, 0, 0) from rfl) ?_
  refine z_add X (show cdA 350 351 = some (.iadd, 1, 0, 0, 0) from rfl) ?_
  refine z_sld X S hL (show cdA 350 352 = some (.iaload, 1, 0, 0, 0) from rfl) (show 0 ≤ (i + 1) ∧ (i + 1) < (L : Int) by first | (clear hps8; omega) | omega) ?_
  have sr12 : rng (sc xs (i + 1)) := sc_rng
  have hFD : FDA (fun i => iC s 0 i) s8 := fun i hi => (JFEQ_s8 i hi).trans (fm_c Fs8 (by decide))
  refine z_callV X 179 (rm := rmN 214) (As := [.int (Int32.ofInt (sc xs (i + 1)))]) (st := []) (show cdA 350 353 = some (.invokevirtual 149, 3, 214, 0, 0) from rfl) rfl (by decide) rfl (by rw [E.1, E.2.1, E.2.2.1]; exact k_rules3 (B := (fun i => iC s 0 i)) G Is8 hFD (by first | exact ⟨sr12.1, sr12.2⟩ | omega)) ⟨by rw [E.2.2.2]; exact (show 61 + 1 ≤ 2048 by first | (clear hps8; omega) | omega), by rw [E.2.2.2]; exact (show 8 + (3 + 11) + 2660 ≤ 84000 by first | (clear hps8; omega) | omega), by rw [E.2.2.2]; exact (show (ce + 1) + 0 ≤ 601024 by first | (clear hps8; omega) | omega), by rw [E.2.2.2]; exact (show (sl + 6) + 0 ≤ 7293034 by first | (clear hps8; omega) | omega)⟩ (Nat.le_of_ble_eq_true rfl) (fun vv s13 hq => ?_) (fun ee s13 hq => ?_)
  rotate_left
  · obtain ⟨Is13, Fs13, JFDA_s13, e14, hv, hrs13, hps13⟩ := hq; cases hv
  obtain ⟨Is13, Fs13, JFDA_s13, e14, hv, hrs13, hps13⟩ := hq
  cases hv
  have Gs13 := fm_ts Gs8 Fs13 (by decide) (by decide)
  have JRLx_s13 : RLx s13 := RLx_fm Fs13 (by decide) JRLx_s8
  have JFEQ_s13 : FEQ s13 := FEQ_fm Fs13 (by decide) JFEQ_s8
  have JFDA_s13 : FDA (fun i => iC s 0 i) s13 := FDA_fm Fs13 (by decide) hFD
  have ws13_0 : iI s13 0 = iI s8 0 := fm_i Fs13 (by decide)
  have b15 : (0 : Int) ≤ iI s13 74 ∧ iI s13 74 ≤ 200 := Is13.1 74
  have ws13_9 : iI s13 9 = iI s8 9 := fm_i Fs13 (by decide)
  have ws13_90 : iI s13 90 = iI s8 90 := fm_i Fs13 (by decide)
  have ws13_12 : iI s13 12 = iI s8 12 := fm_i Fs13 (by decide)
  have ws13_89 : iI s13 89 = iI s8 89 := fm_i Fs13 (by decide)
  have wos13 : iO s13 = iO s8 := fm_o Fs13 (by decide)
  show WS k 356 [(5, .int (Int32.ofInt e9)), (0, .ref q1), (1, .ref (A 0)), (2, .ref (A 179)), (3, .ref (A 517)), (4, .int (Int32.ofInt i))] [.int (Int32.ofInt e14)] (Wd A dT s13) (ce + 1) (sl + 6)
  have hC8 := hps8.2
  rcases hps8.1 with cc | cc
  ·
    rcases hps13 with mm | mm
    ·
      have rq16 := rua_un cc.2.2.2.2 mm.2.2.2.2
      refine z_store X (lv' := [(6, .int (Int32.ofInt e14)), (5, .int (Int32.ofInt e9)), (0, .ref q1), (1, .ref (A 0)), (2, .ref (A 179)), (3, .ref (A 517)), (4, .int (Int32.ofInt i))]) (show cdA 350 356 = some (.istore 6, 2, 0, 0, 0) from rfl) (by decide) (fun _ h => h) ?_
      refine z_aload_n X (x := A 179) (show cdA 350 358 = some (.aload_n 2, 1, 0, 0, 0) from rfl) (List.Mem.tail _ (List.Mem.tail _ (List.Mem.tail _ (List.Mem.tail _ (List.Mem.head _))))) ?_
      refine z_callV X 179 (rm := rmN 186) (As := []) (st := []) (show cdA 350 359 = some (.invokevirtual 150, 3, 186, 0, 0) from rfl) rfl (by decide) rfl (by rw [E.1, E.2.1, E.2.2.1]; exact k_thrown2 G Is13 ) ⟨by rw [E.2.2.2]; exact (show 6 + 1 ≤ 2048 by first | (clear hps13 hps8; omega) | (clear hps8; omega) | omega), by rw [E.2.2.2]; exact (show 8 + (1 + 11) + 100 ≤ 84000 by first | (clear hps13 hps8; omega) | (clear hps8; omega) | omega), by rw [E.2.2.2]; exact (show (ce + 1) + 0 ≤ 601024 by first | (clear hps13 hps8; omega) | (clear hps8; omega) | omega), by rw [E.2.2.2]; exact (show (sl + 6) + 0 ≤ 7293034 by first | (clear hps13 hps8; omega) | (clear hps8; omega) | omega)⟩ (Nat.le_of_ble_eq_true rfl) (fun vv s17 hq => ?_) (fun ee s17 hq => ?_)
      rotate_left
      · obtain ⟨rfl, e18, hv, hrs17, hps17⟩ := hq; cases hv
      obtain ⟨rfl, e18, hv, hrs17, hps17⟩ := hq
      cases hv
      show WS k 362 [(6, .int (Int32.ofInt e14)), (5, .int (Int32.ofInt e9)), (0, .ref q1), (1, .ref (A 0)), (2, .ref (A 179)), (3, .ref (A 517)), (4, .int (Int32.ofInt i))] [.int (Int32.ofInt e18)] (Wd A dT s13) (ce + 1) (sl + 6)
      refine z_load X (x := e9) (show cdA 350 362 = some (.iload 5, 2, 0, 0, 0) from rfl) (List.Mem.tail _ (List.Mem.head _)) ?_
      refine z_icmp_eq X (t := 369) (show cdA 350 364 = some (.if_icmp .eq 5, 3, 0, 0, 0) from rfl) (by decide) hrs17 ⟨by first | (clear hps13 hps8; omega) | (clear hps8; omega) | omega, by first | (clear hps13 hps8; omega) | (clear hps8; omega) | omega⟩ (fun g19 => ?_) (fun g19 => ?_)
      ·
        refine z_load X (x := e9) (show cdA 350 369 = some (.iload 5, 2, 0, 0, 0) from rfl) (List.Mem.tail _ (List.Mem.head _)) ?_
        refine z_if_ne X (t := 386) (show cdA 350 371 = some (.ifCond .ne 15, 3, 1, 0, 0) from rfl) (by decide) ⟨by first | (clear hps13 hps8; omega) | (clear hps8; omega) | omega, by first | (clear hps13 hps8; omega) | (clear hps8; omega) | omega⟩ (fun g20 => ?_) (fun g20 => ?_)
        ·
          refine z_goto X (t := 1894) (show cdA 350 386 = some (.goto 1508, 3, 0, 0, 0) from rfl) (by decide) ?_
          refine w_widen (ce' := ce + 29) (sl' := sl + 222) (by first | (clear g20 hps13 hps8; omega) | (clear hps13 hps8; omega) | omega) (by first | (clear g20 hps13 hps8; omega) | (clear hps13 hps8; omega) | omega) ?_
          exact WS_lv (lv := [(0, .ref q1), (1, .ref (A 0)), (2, .ref (A 179)), (3, .ref (A 517)), (4, .int (Int32.ofInt i))]) (List.forall_mem_cons.mpr ⟨(List.Mem.tail _ (List.Mem.tail _ (List.Mem.head _))), (List.forall_mem_cons.mpr ⟨(List.Mem.tail _ (List.Mem.tail _ (List.Mem.tail _ (List.Mem.head _)))), (List.forall_mem_cons.mpr ⟨(List.Mem.tail _ (List.Mem.tail _ (List.Mem.tail _ (List.Mem.tail _ (List.Mem.head _))))), (List.forall_mem_cons.mpr ⟨(List.Mem.tail _ (List.Mem.tail _ (List.Mem.tail _ (List.Mem.tail _ (List.Mem.tail _ (List.Mem.head _)))))), (List.forall_mem_cons.mpr ⟨(List.Mem.tail _ (List.Mem.tail _ (List.Mem.tail _ (List.Mem.tail _ (List.Mem.tail _ (List.Mem.tail _ (List.Mem.head _))))))), (fun q h => absurd h List.not_mem_nil)⟩)⟩)⟩)⟩)⟩) (hk A _ Is13 JRLx_s13 JFEQ_s13 (by first | (clear g20 hps13 hps8; omega) | (clear hps13 hps8; omega) | omega) (by first | (clear g20 hps13 hps8; omega) | (clear hps13 hps8; omega) | omega) (by first | (clear g20 hps13 hps8; omega) | (clear hps13 hps8; omega) | omega) (by first | (clear g20 hps13 hps8; omega) | (clear hps13 hps8; omega) | omega))
        ·
          refine z_aload_n X (x := A 517) (show cdA 350 374 = some (.aload_n 3, 1, 0, 0, 0) from rfl) (List.Mem.tail _ (List.Mem.tail _ (List.Mem.tail _ (List.Mem.tail _ (List.Mem.tail _ (List.Mem.head _)))))) ?_
          refine z_const X (show cdA 350 375 = some (.iconst 0, 1, 0, 0, 0) from rfl) ?_
          refine z_lO X (show cdA 350 376 = some (.laload, 1, 0, 0, 0) from rfl) ?_
          refine z_load X (x := e14) (show cdA 350 377 = some (.iload 6, 2, 0, 0, 0) from rfl) (List.Mem.head _) ?_
          refine w_i2l X.1 (ax_d X (show cdA 350 379 = some (.i2l, 1, 0, 0, 0) from rfl)) ?_
          refine w_lcmp X.1 (ax_d X (show cdA 350 380 = some (.lcmp, 1, 0, 0, 0) from rfl)) ?_
          refine z_lc (show rng e14 by first | (clear hps13 hps8; omega) | (clear hps8; omega) | omega) (fun c21 hc21 ic21 => ?_)
          show WS k 381 [(6, .int (Int32.ofInt e14)), (5, .int (Int32.ofInt e9)), (0, .ref q1), (1, .ref (A 0)), (2, .ref (A 179)), (3, .ref (A 517)), (4, .int (Int32.ofInt i))] [.int (Int32.ofInt c21)] (Wd A dT s13) (ce + 1) (sl + 6)
          refine z_if_eq X (t := 386) (show cdA 350 381 = some (.ifCond .eq 5, 3, 0, 0, 0) from rfl) (by decide) ⟨by first | (clear hps13 hps8; omega) | (clear hps8; omega) | omega, by first | (clear hps13 hps8; omega) | (clear hps8; omega) | omega⟩ (fun g22 => ?_) (fun g22 => ?_)
          ·
            refine z_goto X (t := 1894) (show cdA 350 386 = some (.goto 1508, 3, 0, 0, 0) from rfl) (by decide) ?_
            refine w_widen (ce' := ce + 29) (sl' := sl + 222) (by first | (clear hps13 hps8; omega) | (clear hps8; omega) | omega) (by first | (clear hps13 hps8; omega) | (clear hps8; omega) | omega) ?_
            exact WS_lv (lv := [(0, .ref q1), (1, .ref (A 0)), (2, .ref (A 179)), (3, .ref (A 517)), (4, .int (Int32.ofInt i))]) (List.forall_mem_cons.mpr ⟨(List.Mem.tail _ (List.Mem.tail _ (List.Mem.head _))), (List.forall_mem_cons.mpr ⟨(List.Mem.tail _ (List.Mem.tail _ (List.Mem.tail _ (List.Mem.head _)))), (List.forall_mem_cons.mpr ⟨(List.Mem.tail _ (List.Mem.tail _ (List.Mem.tail _ (List.Mem.tail _ (List.Mem.head _))))), (List.forall_mem_cons.mpr ⟨(List.Mem.tail _ (List.Mem.tail _ (List.Mem.tail _ (List.Mem.tail _ (List.Mem.tail _ (List.Mem.head _)))))), (List.forall_mem_cons.mpr ⟨(List.Mem.tail _ (List.Mem.tail _ (List.Mem.tail _ (List.Mem.tail _ (List.Mem.tail _ (List.Mem.tail _ (List.Mem.head _))))))), (fun q h => absurd h List.not_mem_nil)⟩)⟩)⟩)⟩)⟩) (hk A _ Is13 JRLx_s13 JFEQ_s13 (by first | (clear hps13 hps8; omega) | (clear hps8; omega) | omega) (by first | (clear hps13 hps8; omega) | (clear hps8; omega) | omega) (by first | (clear hps13 hps8; omega) | (clear hps8; omega) | omega) (by first | (clear hps13 hps8; omega) | (clear hps8; omega) | omega))
          ·
            exfalso
            omega
      ·
        exfalso
        omega
    ·
      exfalso
      omega
  ·
    rcases hps13 with mm | mm
    ·
      exfalso
      omega
    ·
      refine z_store X (lv' := [(6, .int (Int32.ofInt e14)), (5, .int (Int32.ofInt e9)), (0, .ref q1), (1, .ref (A 0)), (2, .ref (A 179)), (3, .ref (A 517)), (4, .int (Int32.ofInt i))]) (show cdA 350 356 = some (.istore 6, 2, 0, 0, 0) from rfl) (by decide) (fun _ h => h) ?_
      refine z_aload_n X (x := A 179) (show cdA 350 358 = some (.aload_n 2, 1, 0, 0, 0) from rfl) (List.Mem.tail _ (List.Mem.tail _ (List.Mem.tail _ (List.Mem.tail _ (List.Mem.head _))))) ?_
      refine z_callV X 179 (rm := rmN 186) (As := []) (st := []) (show cdA 350 359 = some (.invokevirtual 150, 3, 186, 0, 0) from rfl) rfl (by decide) rfl (by rw [E.1, E.2.1, E.2.2.1]; exact k_thrown2 G Is13 ) ⟨by rw [E.2.2.2]; exact (show 6 + 1 ≤ 2048 by first | (clear hps13 hps8; omega) | (clear hps8; omega) | omega), by rw [E.2.2.2]; exact (show 8 + (1 + 11) + 100 ≤ 84000 by first | (clear hps13 hps8; omega) | (clear hps8; omega) | omega), by rw [E.2.2.2]; exact (show (ce + 1) + 0 ≤ 601024 by first | (clear hps13 hps8; omega) | (clear hps8; omega) | omega), by rw [E.2.2.2]; exact (show (sl + 6) + 0 ≤ 7293034 by first | (clear hps13 hps8; omega) | (clear hps8; omega) | omega)⟩ (Nat.le_of_ble_eq_true rfl) (fun vv s23 hq => ?_) (fun ee s23 hq => ?_)
      rotate_left
      · obtain ⟨rfl, e24, hv, hrs23, hps23⟩ := hq; cases hv
      obtain ⟨rfl, e24, hv, hrs23, hps23⟩ := hq
      cases hv
      show WS k 362 [(6, .int (Int32.ofInt e14)), (5, .int (Int32.ofInt e9)), (0, .ref q1), (1, .ref (A 0)), (2, .ref (A 179)), (3, .ref (A 517)), (4, .int (Int32.ofInt i))] [.int (Int32.ofInt e24)] (Wd A dT s13) (ce + 1) (sl + 6)
      refine z_load X (x := e9) (show cdA 350 362 = some (.iload 5, 2, 0, 0, 0) from rfl) (List.Mem.tail _ (List.Mem.head _)) ?_
      refine z_icmp_eq X (t := 369) (show cdA 350 364 = some (.if_icmp .eq 5, 3, 0, 0, 0) from rfl) (by decide) hrs23 ⟨by first | (clear hps13 hps8; omega) | (clear hps8; omega) | omega, by first | (clear hps13 hps8; omega) | (clear hps8; omega) | omega⟩ (fun g25 => ?_) (fun g25 => ?_)
      ·
        refine z_load X (x := e9) (show cdA 350 369 = some (.iload 5, 2, 0, 0, 0) from rfl) (List.Mem.tail _ (List.Mem.head _)) ?_
        refine z_if_ne X (t := 386) (show cdA 350 371 = some (.ifCond .ne 15, 3, 1, 0, 0) from rfl) (by decide) ⟨by first | (clear hps13 hps8; omega) | (clear hps8; omega) | omega, by first | (clear hps13 hps8; omega) | (clear hps8; omega) | omega⟩ (fun g26 => ?_) (fun g26 => ?_)
        ·
          refine z_goto X (t := 1894) (show cdA 350 386 = some (.goto 1508, 3, 0, 0, 0) from rfl) (by decide) ?_
          refine w_widen (ce' := ce + 29) (sl' := sl + 222) (by first | (clear g26 hps13 hps8; omega) | (clear hps13 hps8; omega) | omega) (by first | (clear g26 hps13 hps8; omega) | (clear hps13 hps8; omega) | omega) ?_
          exact WS_lv (lv := [(0, .ref q1), (1, .ref (A 0)), (2, .ref (A 179)), (3, .ref (A 517)), (4, .int (Int32.ofInt i))]) (List.forall_mem_cons.mpr ⟨(List.Mem.tail _ (List.Mem.tail _ (List.Mem.head _))), (List.forall_mem_cons.mpr ⟨(List.Mem.tail _ (List.Mem.tail _ (List.Mem.tail _ (List.Mem.head _)))), (List.forall_mem_cons.mpr ⟨(List.Mem.tail _ (List.Mem.tail _ (List.Mem.tail _ (List.Mem.tail _ (List.Mem.head _))))), (List.forall_mem_cons.mpr ⟨(List.Mem.tail _ (List.Mem.tail _ (List.Mem.tail _ (List.Mem.tail _ (List.Mem.tail _ (List.Mem.head _)))))), (List.forall_mem_cons.mpr ⟨(List.Mem.tail _ (List.Mem.tail _ (List.Mem.tail _ (List.Mem.tail _ (List.Mem.tail _ (List.Mem.tail _ (List.Mem.head _))))))), (fun q h => absurd h List.not_mem_nil)⟩)⟩)⟩)⟩)⟩) (hk A _ Is13 JRLx_s13 JFEQ_s13 (by first | (clear g26 hps13 hps8; omega) | (clear hps13 hps8; omega) | omega) (by first | (clear g26 hps13 hps8; omega) | (clear hps13 hps8; omega) | omega) (by first | (clear g26 hps13 hps8; omega) | (clear hps13 hps8; omega) | omega) (by first | (clear g26 hps13 hps8; omega) | (clear hps13 hps8; omega) | omega))
        ·
          refine z_aload_n X (x := A 517) (show cdA 350 374 = some (.aload_n 3, 1, 0, 0, 0) from rfl) (List.Mem.tail _ (List.Mem.tail _ (List.Mem.tail _ (List.Mem.tail _ (List.Mem.tail _ (List.Mem.head _)))))) ?_
          refine z_const X (show cdA 350 375 = some (.iconst 0, 1, 0, 0, 0) from rfl) ?_
          refine z_lO X (show cdA 350 376 = some (.laload, 1, 0, 0, 0) from rfl) ?_
          refine z_load X (x := e14) (show cdA 350 377 = some (.iload 6, 2, 0, 0, 0) from rfl) (List.Mem.head _) ?_
          refine w_i2l X.1 (ax_d X (show cdA 350 379 = some (.i2l, 1, 0, 0, 0) from rfl)) ?_
          refine w_lcmp X.1 (ax_d X (show cdA 350 380 = some (.lcmp, 1, 0, 0, 0) from rfl)) ?_
          refine z_lc (show rng e14 by first | (clear hps13 hps8; omega) | (clear hps8; omega) | omega) (fun c27 hc27 ic27 => ?_)
          show WS k 381 [(6, .int (Int32.ofInt e14)), (5, .int (Int32.ofInt e9)), (0, .ref q1), (1, .ref (A 0)), (2, .ref (A 179)), (3, .ref (A 517)), (4, .int (Int32.ofInt i))] [.int (Int32.ofInt c27)] (Wd A dT s13) (ce + 1) (sl + 6)
          refine z_if_eq X (t := 386) (show cdA 350 381 = some (.ifCond .eq 5, 3, 0, 0, 0) from rfl) (by decide) ⟨by first | (clear hps13 hps8; omega) | (clear hps8; omega) | omega, by first | (clear hps13 hps8; omega) | (clear hps8; omega) | omega⟩ (fun g28 => ?_) (fun g28 => ?_)
          ·
            refine z_goto X (t := 1894) (show cdA 350 386 = some (.goto 1508, 3, 0, 0, 0) from rfl) (by decide) ?_
            refine w_widen (ce' := ce + 29) (sl' := sl + 222) (by first | (clear hps13 hps8; omega) | (clear hps8; omega) | omega) (by first | (clear hps13 hps8; omega) | (clear hps8; omega) | omega) ?_
            exact WS_lv (lv := [(0, .ref q1), (1, .ref (A 0)), (2, .ref (A 179)), (3, .ref (A 517)), (4, .int (Int32.ofInt i))]) (List.forall_mem_cons.mpr ⟨(List.Mem.tail _ (List.Mem.tail _ (List.Mem.head _))), (List.forall_mem_cons.mpr ⟨(List.Mem.tail _ (List.Mem.tail _ (List.Mem.tail _ (List.Mem.head _)))), (List.forall_mem_cons.mpr ⟨(List.Mem.tail _ (List.Mem.tail _ (List.Mem.tail _ (List.Mem.tail _ (List.Mem.head _))))), (List.forall_mem_cons.mpr ⟨(List.Mem.tail _ (List.Mem.tail _ (List.Mem.tail _ (List.Mem.tail _ (List.Mem.tail _ (List.Mem.head _)))))), (List.forall_mem_cons.mpr ⟨(List.Mem.tail _ (List.Mem.tail _ (List.Mem.tail _ (List.Mem.tail _ (List.Mem.tail _ (List.Mem.tail _ (List.Mem.head _))))))), (fun q h => absurd h List.not_mem_nil)⟩)⟩)⟩)⟩)⟩) (hk A _ Is13 JRLx_s13 JFEQ_s13 (by first | (clear hps13 hps8; omega) | (clear hps8; omega) | omega) (by first | (clear hps13 hps8; omega) | (clear hps8; omega) | omega) (by first | (clear hps13 hps8; omega) | (clear hps8; omega) | omega) (by first | (clear hps13 hps8; omega) | (clear hps8; omega) | omega))
          ·
            exfalso
            omega
      ·
        exfalso
        omega
theorem lc_3 (G : GX l s0 D tys a0 dT) (GR : RS0 s0) (SF : SF0 s0) (GT : TXs0 s0) (GW : TXw0 s0) {k : kx_T} (X : AX k 350 dT) (E : kL k = l ∧ kS0 k = s0 ∧ kD k = D ∧ kR k = room_1) {q1 L : Nat} {xs : Nat → Int32} (S : SX k q1 L xs) (hL : L ≤ 3072) (I : Bd s) (jR : RLx s) (jFEQ : FEQ s) (p1 : iI s 89 = 1) (p2 : iI s 12 ≤ 8) (p3 : iI s 0 = iI s 74) (p4 : iI s 9 = iI s 90) {i : Int} (hi : 0 ≤ i ∧ i + 6 ≤ (L : Int)) {ce sl : Nat} (hce : ce + 29 ≤ 601024) (hsl : sl + 222 ≤ 7293034) (hk : ∀ (A : Nat → Nat) (t : PS), Bd t → RLx t → FEQ t → iI t 89 = 1 → iI t 12 ≤ 8 → iI t 0 = iI t 74 → iI t 9 = iI t 90 → WS k 1894 [(0, .ref q1), (1, .ref (A 0)), (2, .ref (A 179)), (3, .ref (A 517)), (4, .int (Int32.ofInt i))] [] (Wd A dT t) (ce + 29) (sl + 222)) : WS k 389 [(0, .ref q1), (1, .ref (A 0)), (2, .ref (A 179)), (3, .ref (A 517)), (4, .int (Int32.ofInt i))] [] (Wd A dT s) ce sl := by
  have F : Fm [73] [] s s := fm_rf _ _ s
  have b1 : (0 : Int) ≤ iI s 0 ∧ iI s 0 ≤ 200 := I.1 0
  have b2 : (0 : Int) ≤ iI s 74 ∧ iI s 74 ≤ 200 := I.1 74
  have b3 : (0 : Int) ≤ iI s 9 ∧ iI s 9 ≤ 12 := I.1 9
  have b4 : (0 : Int) ≤ iI s 90 ∧ iI s 90 ≤ 12 := I.1 90
  have b5 : (0 : Int) ≤ iI s 12 ∧ iI s 12 ≤ 9 := I.1 12
  have b6 : (1 : Int) ≤ iI s 89 ∧ iI s 89 ≤ 8 := I.1 89
  refine z_aload_n X (x := A 0) (show cdA 350 389 = some (.aload_n 1, 1, 0, 0, 0) from rfl) (List.Mem.tail _ (List.Mem.head _)) ?_
  refine z_callV X 0 (rm := rmN 138) (As := []) (st := []) (show cdA 350 390 = some (.invokevirtual 154, 3, 138, 0, 0) from rfl) rfl (by decide) rfl (by rw [E.1, E.2.1, E.2.2.1]; exact cs_fault G I ) ⟨by rw [E.2.2.2]; exact (show 6 + 1 ≤ 2048 by omega), by rw [E.2.2.2]; exact (show 8 + (1 + 11) + 100 ≤ 84000 by omega), by rw [E.2.2.2]; exact (show ce + 0 ≤ 601024 by omega), by rw [E.2.2.2]; exact (show sl + 0 ≤ 7293034 by omega)⟩ (Nat.le_of_ble_eq_true rfl) (fun vv s7 hq => ?_) (fun ee s7 hq => ?_)
  rotate_left
  · obtain ⟨Is7, Fs7, e8, hv, hrs7, hps7⟩ := hq; cases hv
  obtain ⟨Is7, Fs7, e8, hv, hrs7, hps7⟩ := hq
  cases hv
  have Gs7 := fm_ts F Fs7 (by decide) (by decide)
  have JRLx_s7 : RLx s7 := RLx_fm Fs7 (by decide) jR
  have JFEQ_s7 : FEQ s7 := FEQ_fm Fs7 (by decide) jFEQ
  have ws7_0 : iI s7 0 = iI s 0 := fm_i Fs7 (by decide)
  have ws7_74 : iI s7 74 = iI s 74 := fm_i Fs7 (by decide)
  have ws7_9 : iI s7 9 = iI s 9 := fm_i Fs7 (by decide)
  have ws7_90 : iI s7 90 = iI s 90 := fm_i Fs7 (by decide)
  have ws7_12 : iI s7 12 = iI s 12 := fm_i Fs7 (by decide)
  have ws7_89 : iI s7 89 = iI s 89 := fm_i Fs7 (by decide)
  have wos7 : iO s7 = iO s := fm_o Fs7 (by decide)
  show WS k 393 [(0, .ref q1), (1, .ref (A 0)), (2, .ref (A 179)), (3, .ref (A 517)), (4, .int (Int32.ofInt i))] [.int (Int32.ofInt e8)] (Wd A dT s7) ce sl
  refine w_pop X.1 (ax_d X (show cdA 350 393 = some (.pop, 1, 0, 0, 0) from rfl)) rfl ?_
  refine z_aload_n X (x := A 179) (show cdA 350 394 = some (.aload_n 2, 1, 0, 0, 0) from rfl) (List.Mem.tail _ (List.Mem.tail _ (List.Mem.head _))) ?_
  refine z_callV X 179 (rm := rmN 215) (As := []) (st := []) (show cdA 350 395 = some (.invokevirtual 157, 3, 215, 0, 0) from rfl) rfl (by decide) rfl (by rw [E.1, E.2.1, E.2.2.1]; exact k_fault G Is7 ) ⟨by rw [E.2.2.2]; exact (show 6 + 1 ≤ 2048 by omega), by rw [E.2.2.2]; exact (show 8 + (1 + 11) + 100 ≤ 84000 by omega), by rw [E.2.2.2]; exact (show ce + 0 ≤ 601024 by omega), by rw [E.2.2.2]; exact (show sl + 0 ≤ 7293034 by omega)⟩ (Nat.le_of_ble_eq_true rfl) (fun vv s9 hq => ?_) (fun ee s9 hq => ?_)
  rotate_left
  · obtain ⟨Is9, Fs9, e10, hv, hrs9, hps9⟩ := hq; cases hv
  obtain ⟨Is9, Fs9, e10, hv, hrs9, hps9⟩ := hq
  cases hv
  have Gs9 := fm_ts Gs7 Fs9 (by decide) (by decide)
  have JRLx_s9 : RLx s9 := RLx_fm Fs9 (by decide) JRLx_s7
  have JFEQ_s9 : FEQ s9 := FEQ_fm Fs9 (by decide) JFEQ_s7
  have ws9_0 : iI s9 0 = iI s7 0 := fm_i Fs9 (by decide)
  have ws9_74 : iI s9 74 = iI s7 74 := fm_i Fs9 (by decide)
  have ws9_9 : iI s9 9 = iI s7 9 := fm_i Fs9 (by decide)
  have ws9_90 : iI s9 90 = iI s7 90 := fm_i Fs9 (by decide)
  have ws9_12 : iI s9 12 = iI s7 12 := fm_i Fs9 (by decide)
  have ws9_89 : iI s9 89 = iI s7 89 := fm_i Fs9 (by decide)
  have wos9 : iO s9 = iO s7 := fm_o Fs9 (by decide)
  show WS k 398 [(0, .ref q1), (1, .ref (A 0)), (2, .ref (A 179)), (3, .ref (A 517)), (4, .int (Int32.ofInt i))] [.int (Int32.ofInt e10)] (Wd A dT s9) ce sl
  refine w_pop X.1 (ax_d X (show cdA 350 398 = some (.pop, 1, 0, 0, 0) from rfl)) rfl ?_
  refine z_goto X (t := 1894) (show cdA 350 399 = some (.goto 1495, 3, 0, 0, 0) from rfl) (by decide) ?_
  refine w_widen (ce' := ce + 29) (sl' := sl + 222) (by omega) (by omega) ?_
  exact WS_lv (lv := [(0, .ref q1), (1, .ref (A 0)), (2, .ref (A 179)), (3, .ref (A 517)), (4, .int (Int32.ofInt i))]) (List.forall_mem_cons.mpr ⟨(List.Mem.head _), (List.forall_mem_cons.mpr ⟨(List.Mem.tail _ (List.Mem.head _)), (List.forall_mem_cons.mpr ⟨(List.Mem.tail _ (List.Mem.tail _ (List.Mem.head _))), (List.forall_mem_cons.mpr ⟨(List.Mem.tail _ (List.Mem.tail _ (List.Mem.tail _ (List.Mem.head _)))), (List.forall_mem_cons.mpr ⟨(List.Mem.tail _ (List.Mem.tail _ (List.Mem.tail _ (List.Mem.tail _ (List.Mem.head _))))), (fun q h => absurd h List.not_mem_nil)⟩)⟩)⟩)⟩)⟩) (hk A _ Is9 JRLx_s9 JFEQ_s9 (by omega) (by omega) (by omega) (by omega))
theorem lc_4 (G : GX l s0 D tys a0 dT) (GR : RS0 s0) (SF : SF0 s0) (GT : TXs0 s0) (GW : TXw0 s0) {k : kx_T} (X : AX k 350 dT) (E : kL k = l ∧ kS0 k = s0 ∧ kD k = D ∧ kR k = room_1) {q1 L : Nat} {xs : Nat → Int32} (S : SX k q1 L xs) (hL : L ≤ 3072) (I : Bd s) (jR : RLx s) (jFEQ : FEQ s) (p1 : iI s 89 = 1) (p2 : iI s 12 ≤ 8) (p3 : iI s 0 = iI s 74) (p4 : iI s 9 = iI s 90) {i : Int} (hi : 0 ≤ i ∧ i + 6 ≤ (L : Int)) {ce sl : Nat} (hce : ce + 29 ≤ 601024) (hsl : sl + 222 ≤ 7293034) (hk : ∀ (A : Nat → Nat) (t : PS), Bd t → RLx t → FEQ t → iI t 89 = 1 → iI t 12 ≤ 8 → iI t 0 = iI t 74 → iI t 9 = iI t 90 → WS k 1894 [(0, .ref q1), (1, .ref (A 0)), (2, .ref (A 179)), (3, .ref (A 517)), (4, .int (Int32.ofInt i))] [] (Wd A dT t) (ce + 29) (sl + 222)) : WS k 402 [(0, .ref q1), (1, .ref (A 0)), (2, .ref (A 179)), (3, .ref (A 517)), (4, .int (Int32.ofInt i))] [] (Wd A dT s) ce sl := by
  have F : Fm [73] [1460] s s := fm_rf _ _ s
  have b1 : (0 : Int) ≤ iI s 0 ∧ iI s 0 ≤ 200 := I.1 0
  have b2 : (0 : Int) ≤ iI s 74 ∧ iI s 74 ≤ 200 := I.1 74
  have b3 : (0 : Int) ≤ iI s 9 ∧ iI s 9 ≤ 12 := I.1 9
  have b4 : (0 : Int) ≤ iI s 90 ∧ iI s 90 ≤ 12 := I.1 90
  have b5 : (0 : Int) ≤ iI s 12 ∧ iI s 12 ≤ 9 := I.1 12
  have b6 : (1 : Int) ≤ iI s 89 ∧ iI s 89 ≤ 8 := I.1 89
  refine z_aload_n X (x := A 0) (show cdA 350 402 = some (.aload_n 1, 1, 0, 0, 0) from rfl) (List.Mem.tail _ (List.Mem.head _)) ?_
  refine z_aload_n X (x := q1) (show cdA 350 403 = some (.aload_n 0, 1, 0, 0, 0) from rfl) (List.Mem.head _) ?_
  refine z_load X (x := i) (show cdA 350 404 = some (.iload 4, 2, 0, 0, 0) from rfl) (List.Mem.tail _ (List.Mem.tail _ (List.Mem.tail _ (List.Mem.tail _ (List.Mem.head _))))) ?_
  refine z_const X (show cdA 350 406 = some (.iconst 1, 1, 0, 0, 0) from rfl) ?_
  refine z_add X (show cdA 350 407 = some (.iadd, 1, 0, 0, 0) from rfl) ?_
  refine z_sld X S hL (show cdA 350 408 = some (.iaload, 1, 0, 0, 0) from rfl) (show 0 ≤ (i + 1) ∧ (i + 1) < (L : Int) by omega) ?_
  have sr7 : rng (sc xs (i + 1)) := sc_rng
  refine z_aload_n X (x := q1) (show cdA 350 409 = some (.aload_n 0, 1, 0, 0, 0) from rfl) (List.Mem.head _) ?_
  refine z_load X (x := i) (show cdA 350 410 = some (.iload 4, 2, 0, 0, 0) from rfl) (List.Mem.tail _ (List.Mem.tail _ (List.Mem.tail _ (List.Mem.tail _ (List.Mem.head _))))) ?_
  refine z_const X (show cdA 350 412 = some (.iconst 2, 1, 0, 0, 0) from rfl) ?_
  refine z_add X (show cdA 350 413 = some (.iadd, 1, 0, 0, 0) from rfl) ?_
  refine z_sld X S hL (show cdA 350 414 = some (.iaload, 1, 0, 0, 0) from rfl) (show 0 ≤ (i + 2) ∧ (i + 2) < (L : Int) by omega) ?_
  have sr8 : rng (sc xs (i + 2)) := sc_rng
  refine z_aload_n X (x := A 517) (show cdA 350 415 = some (.aload_n 3, 1, 0, 0, 0) from rfl) (List.Mem.tail _ (List.Mem.tail _ (List.Mem.tail _ (List.Mem.head _)))) ?_
  refine z_callL X (rm := rmN 316) (As := [.ref (A 0), .int (Int32.ofInt (sc xs (i + 1))), .int (Int32.ofInt (sc xs (i + 2))), .ref (A 517)]) (st := []) (show cdA 350 416 = some (.invokestatic 158, 3, 316, 6, 0) from rfl) (by decide) rfl (by rw [E.1, E.2.1, E.2.2.1]; exact lw_way G I (by omega) (by omega)) ⟨by rw [E.2.2.2]; exact (show 8 + 1 ≤ 2048 by omega), by rw [E.2.2.2]; exact (show 8 + (5 + 11) + 144 ≤ 84000 by omega), by rw [E.2.2.2]; exact (show ce + 1 ≤ 601024 by omega), by rw [E.2.2.2]; exact (show sl + 6 ≤ 7293034 by omega)⟩ (Nat.le_of_ble_eq_true rfl) (fun vv A s9 hA2 hq => ?_) (fun ee A s9 hA2 hq => ?_)
  rotate_left
  · obtain ⟨Is9, Fs9, e10, hv, hrs9, hps9⟩ := hq; cases hv
  obtain ⟨Is9, Fs9, e10, hv, hrs9, hps9⟩ := hq
  cases hv
  rw [← hA2 0 (by decide)]
  rw [← hA2 179 (by decide)]
  rw [← hA2 517 (by decide)]
  have Gs9 := fm_ts F Fs9 (by decide) (by decide)
  have JRLx_s9 : RLx s9 := RLx_fm Fs9 (by decide) jR
  have JFEQ_s9 : FEQ s9 := FEQ_fm Fs9 (by decide) jFEQ
  have ws9_0 : iI s9 0 = iI s 0 := fm_i Fs9 (by decide)
  have ws9_74 : iI s9 74 = iI s 74 := fm_i Fs9 (by decide)
  have ws9_9 : iI s9 9 = iI s 9 := fm_i Fs9 (by decide)
  have ws9_90 : iI s9 90 = iI s 90 := fm_i Fs9 (by decide)
  have ws9_12 : iI s9 12 = iI s 12 := fm_i Fs9 (by decide)
  have ws9_89 : iI s9 89 = iI s 89 := fm_i Fs9 (by decide)
  show WS k 419 [(0, .ref q1), (1, .ref (A 0)), (2, .ref (A 179)), (3, .ref (A 517)), (4, .int (Int32.ofInt i))] [.int (Int32.ofInt e10)] (Wd A dT s9) (ce + 1) (sl + 6)
  refine z_store X (lv' := [(5, .int (Int32.ofInt e10)), (0, .ref q1), (1, .ref (A 0)), (2, .ref (A 179)), (3, .ref (A 517)), (4, .int (Int32.ofInt i))]) (show cdA 350 419 = some (.istore 5, 2, 0, 0, 0) from rfl) (by decide) (fun _ h => h) ?_
  refine z_aload_n X (x := A 179) (show cdA 350 421 = some (.aload_n 2, 1, 0, 0, 0) from rfl) (List.Mem.tail _ (List.Mem.tail _ (List.Mem.tail _ (List.Mem.head _)))) ?_
  refine z_aload_n X (x := q1) (show cdA 350 422 = some (.aload_n 0, 1, 0, 0, 0) from rfl) (List.Mem.tail _ (List.Mem.head _)) ?_
  refine z_load X (x := i) (show cdA 350 423 = some (.iload 4, 2, 0, 0, 0) from rfl) (List.Mem.tail _ (List.Mem.tail _ (List.Mem.tail _ (List.Mem.tail _ (List.Mem.tail _ (List.Mem.head _)))))) ?_
  refine z_const X (show cdA 350 425 = some (.iconst 1, 1, 0, 0, 0) from rfl) ?_
  refine z_add X (show cdA 350 426 = some (.iadd, 1, 0, 0, 0) from rfl) ?_
  refine z_sld X S hL (show cdA 350 427 = some (.iaload, 1, 0, 0, 0) from rfl) (show 0 ≤ (i + 1) ∧ (i + 1) < (L : Int) by omega) ?_
  have sr11 : rng (sc xs (i + 1)) := sc_rng
  refine z_aload_n X (x := q1) (show cdA 350 428 = some (.aload_n 0, 1, 0, 0, 0) from rfl) (List.Mem.tail _ (List.Mem.head _)) ?_
  refine z_load X (x := i) (show cdA 350 429 = some (.iload 4, 2, 0, 0, 0) from rfl) (List.Mem.tail _ (List.Mem.tail _ (List.Mem.tail _ (List.Mem.tail _ (List.Mem.tail _ (List.Mem.head _)))))) ?_
  refine z_const X (show cdA 350 431 = some (.iconst 2, 1, 0, 0, 0) from rfl) ?_
  refine z_add X (show cdA 350 432 = some (.iadd, 1, 0, 0, 0) from rfl) ?_
  refine z_sld X S hL (show cdA 350 433 = some (.iaload, 1, 0, 0, 0) from rfl) (show 0 ≤ (i + 2) ∧ (i + 2) < (L : Int) by omega) ?_
  have sr12 : rng (sc xs (i + 2)) := sc_rng
  refine z_callV X 179 (rm := rmN 217) (As := [.int (Int32.ofInt (sc xs (i + 1))), .int (Int32.ofInt (sc xs (i + 2)))]) (st := []) (show cdA 350 434 = some (.invokevirtual 161, 3, 217, 0, 0) from rfl) rfl (by decide) rfl (by rw [E.1, E.2.1, E.2.2.1]; exact k_way G Is9 (by first | exact ⟨sr11.1, sr11.2⟩ | omega) (by first | exact ⟨sr12.1, sr12.2⟩ | omega)) ⟨by rw [E.2.2.2]; exact (show 7 + 1 ≤ 2048 by omega), by rw [E.2.2.2]; exact (show 8 + (3 + 11) + 122 ≤ 84000 by omega), by rw [E.2.2.2]; exact (show (ce + 1) + 0 ≤ 601024 by omega), by rw [E.2.2.2]; exact (show (sl + 6) + 0 ≤ 7293034 by omega)⟩ (Nat.le_of_ble_eq_true rfl) (fun vv s13 hq => ?_) (fun ee s13 hq => ?_)
  rotate_left
  · obtain ⟨Is13, Fs13, e14, hv, hrs13, hps13⟩ := hq; cases hv
  obtain ⟨Is13, Fs13, e14, hv, hrs13, hps13⟩ := hq
  cases hv
  have Gs13 := fm_ts Gs9 Fs13 (by decide) (by decide)
  have JRLx_s13 : RLx s13 := RLx_fm Fs13 (by decide) JRLx_s9
  have JFEQ_s13 : FEQ s13 := FEQ_fm Fs13 (by decide) JFEQ_s9
  have ws13_0 : iI s13 0 = iI s9 0 := fm_i Fs13 (by decide)
  have ws13_74 : iI s13 74 = iI s9 74 := fm_i Fs13 (by decide)
  have ws13_9 : iI s13 9 = iI s9 9 := fm_i Fs13 (by decide)
  have ws13_90 : iI s13 90 = iI s9 90 := fm_i Fs13 (by decide)
  have ws13_12 : iI s13 12 = iI s9 12 := fm_i Fs13 (by decide)
  have ws13_89 : iI s13 89 = iI s9 89 := fm_i Fs13 (by decide)
  have wos13 : iO s13 = iO s9 := fm_o Fs13 (by decide)
  show WS k 437 [(5, .int (Int32.ofInt e10)), (0, .ref q1), (1, .ref (A 0)), (2, .ref (A 179)), (3, .ref (A 517)), (4, .int (Int32.ofInt i))] [.int (Int32.ofInt e14)] (Wd A dT s13) (ce + 1) (sl + 6)
  refine z_store X (lv' := [(6, .int (Int32.ofInt e14)), (5, .int (Int32.ofInt e10)), (0, .ref q1), (1, .ref (A 0)), (2, .ref (A 179)), (3, .ref (A 517)), (4, .int (Int32.ofInt i))]) (show cdA 350 437 = some (.istore 6, 2, 0, 0, 0) from rfl) (by decide) (fun _ h => h) ?_
  refine z_goto X (t := 1894) (show cdA 350 439 = some (.goto 1455, 3, 0, 0, 0) from rfl) (by decide) ?_
  refine w_widen (ce' := ce + 29) (sl' := sl + 222) (by omega) (by omega) ?_
  exact WS_lv (lv := [(0, .ref q1), (1, .ref (A 0)), (2, .ref (A 179)), (3, .ref (A 517)), (4, .int (Int32.ofInt i))]) (List.forall_mem_cons.mpr ⟨(List.Mem.tail _ (List.Mem.tail _ (List.Mem.head _))), (List.forall_mem_cons.mpr ⟨(List.Mem.tail _ (List.Mem.tail _ (List.Mem.tail _ (List.Mem.head _)))), (List.forall_mem_cons.mpr ⟨(List.Mem.tail _ (List.Mem.tail _ (List.Mem.tail _ (List.Mem.tail _ (List.Mem.head _))))), (List.forall_mem_cons.mpr ⟨(List.Mem.tail _ (List.Mem.tail _ (List.Mem.tail _ (List.Mem.tail _ (List.Mem.tail _ (List.Mem.head _)))))), (List.forall_mem_cons.mpr ⟨(List.Mem.tail _ (List.Mem.tail _ (List.Mem.tail _ (List.Mem.tail _ (List.Mem.tail _ (List.Mem.tail _ (List.Mem.head _))))))), (fun q h => absurd h List.not_mem_nil)⟩)⟩)⟩)⟩)⟩) (hk A _ Is13 JRLx_s13 JFEQ_s13 (by omega) (by omega) (by omega) (by omega))
theorem lc_5 (G : GX l s0 D tys a0 dT) (GR : RS0 s0) (SF : SF0 s0) (GT : TXs0 s0) (GW : TXw0 s0) {k : kx_T} (X : AX k 350 dT) (E : kL k = l ∧ kS0 k = s0 ∧ kD k = D ∧ kR k = room_1) {q1 L : Nat} {xs : Nat → Int32} (S : SX k q1 L xs) (hL : L ≤ 3072) (I : Bd s) (jR : RLx s) (jFEQ : FEQ s) (p1 : iI s 89 = 1) (p2 : iI s 12 ≤ 8) (p3 : iI s 0 = iI s 74) (p4 : iI s 9 = iI s 90) {i : Int} (hi : 0 ≤ i ∧ i + 6 ≤ (L : Int)) {ce sl : Nat} (hce : ce + 29 ≤ 601024) (hsl : sl + 222 ≤ 7293034) (hk : ∀ (A : Nat → Nat) (t : PS), Bd t → RLx t → FEQ t → iI t 89 = 1 → iI t 12 ≤ 8 → iI t 0 = iI t 74 → iI t 9 = iI t 90 → WS k 1894 [(0, .ref q1), (1, .ref (A 0)), (2, .ref (A 179)), (3, .ref (A 517)), (4, .int (Int32.ofInt i))] [] (Wd A dT t) (ce + 29) (sl + 222)) : WS k 442 [(0, .ref q1), (1, .ref (A 0)), (2, .ref (A 179)), (3, .ref (A 517)), (4, .int (Int32.ofInt i))] [] (Wd A dT s) ce sl := by
  have F : Fm [73] [8, 11, 12, 13, 14, 190, 191, 192, 193, 194, 195, 196, 197, 198, 199, 200, 201] s s := fm_rf _ _ s
  have b1 : (0 : Int) ≤ iI s 0 ∧ iI s 0 ≤ 200 := I.1 0
  have b2 : (0 : Int) ≤ iI s 74 ∧ iI s 74 ≤ 200 := I.1 74
  have b3 : (0 : Int) ≤ iI s 9 ∧ iI s 9 ≤ 12 := I.1 9
  have b4 : (0 : Int) ≤ iI s 90 ∧ iI s 90 ≤ 12 := I.1 90
  have b5 : (0 : Int) ≤ iI s 12 ∧ iI s 12 ≤ 9 := I.1 12
  have b6 : (1 : Int) ≤ iI s 89 ∧ iI s 89 ≤ 8 := I.1 89
  refine z_aload_n X (x := A 0) (show cdA 350 442 = some (.aload_n 1, 1, 0, 0, 0) from rfl) (List.Mem.tail _ (List.Mem.head _)) ?_
  refine z_aload_n X (x := q1) (show cdA 350 443 = some (.aload_n 0, 1, 0, 0, 0) from rfl) (List.Mem.head _) ?_
  refine z_load X (x := i) (show cdA 350 444 = some (.iload 4, 2, 0, 0, 0) from rfl) (List.Mem.tail _ (List.Mem.tail _ (List.Mem.tail _ (List.Mem.tail _ (List.Mem.head _))))) ?_
  refine z_const X (show cdA 350 446 = some (.iconst 1, 1, 0, 0, 0) from rfl) ?_
  refine z_add X (show cdA 350 447 = some (.iadd, 1, 0, 0, 0) from rfl) ?_
  refine z_sld X S hL (show cdA 350 448 = some (.iaload, 1, 0, 0, 0) from rfl) (show 0 ≤ (i + 1) ∧ (i + 1) < (L : Int) by omega) ?_
  have sr7 : rng (sc xs (i + 1)) := sc_rng
  refine z_aload_n X (x := q1) (show cdA 350 449 = some (.aload_n 0, 1, 0, 0, 0) from rfl) (List.Mem.head _) ?_
  refine z_load X (x := i) (show cdA 350 450 = some (.iload 4, 2, 0, 0, 0) from rfl) (List.Mem.tail _ (List.Mem.tail _ (List.Mem.tail _ (List.Mem.tail _ (List.Mem.head _))))) ?_
  refine z_const X (show cdA 350 452 = some (.iconst 2, 1, 0, 0, 0) from rfl) ?_
  refine z_add X (show cdA 350 453 = some (.iadd, 1, 0, 0, 0) from rfl) ?_
  refine z_sld X S hL (show cdA 350 454 = some (.iaload, 1, 0, 0, 0) from rfl) (show 0 ≤ (i + 2) ∧ (i + 2) < (L : Int) by omega) ?_
  have sr8 : rng (sc xs (i + 2)) := sc_rng
  refine z_aload_n X (x := q1) (show cdA 350 455 = some (.aload_n 0, 1, 0, 0, 0) from rfl) (List.Mem.head _) ?_
  refine z_load X (x := i) (show cdA 350 456 = some (.iload 4, 2, 0, 0, 0) from rfl) (List.Mem.tail _ (List.Mem.tail _ (List.Mem.tail _ (List.Mem.tail _ (List.Mem.head _))))) ?_
  refine z_const X (show cdA 350 458 = some (.iconst 3, 1, 0, 0, 0) from rfl) ?_
  refine z_add X (show cdA 350 459 = some (.iadd, 1, 0, 0, 0) from rfl) ?_
  refine z_sld X S hL (show cdA 350 460 = some (.iaload, 1, 0, 0, 0) from rfl) (show 0 ≤ (i + 3) ∧ (i + 3) < (L : Int) by omega) ?_
  have sr9 : rng (sc xs (i + 3)) := sc_rng
  refine z_aload_n X (x := q1) (show cdA 350 461 = some (.aload_n 0, 1, 0, 0, 0) from rfl) (List.Mem.head _) ?_
  refine z_load X (x := i) (show cdA 350 462 = some (.iload 4, 2, 0, 0, 0) from rfl) (List.Mem.tail _ (List.Mem.tail _ (List.Mem.tail _ (List.Mem.tail _ (List.Mem.head _))))) ?_
  refine z_const X (show cdA 350 464 = some (.iconst 4, 1, 0, 0, 0) from rfl) ?_
  refine z_add X (show cdA 350 465 = some (.iadd, 1, 0, 0, 0) from rfl) ?_
  refine z_sld X S hL (show cdA 350 466 = some (.iaload, 1, 0, 0, 0) from rfl) (show 0 ≤ (i + 4) ∧ (i + 4) < (L : Int) by omega) ?_
  have sr10 : rng (sc xs (i + 4)) := sc_rng
  refine z_callL X (rm := rmN 317) (As := [.ref (A 0), .int (Int32.ofInt (sc xs (i + 1))), .int (Int32.ofInt (sc xs (i + 2))), .int (Int32.ofInt (sc xs (i + 3))), .int (Int32.ofInt (sc xs (i + 4)))]) (st := []) (show cdA 350 467 = some (.invokestatic 162, 3, 317, 6, 0) from rfl) (by decide) rfl (by rw [E.1, E.2.1, E.2.2.1]; exact lw_flow2 G I (by omega) (by omega) (by omega) (by omega)) ⟨by rw [E.2.2.2]; exact (show 11 + 1 ≤ 2048 by omega), by rw [E.2.2.2]; exact (show 8 + (6 + 11) + 219 ≤ 84000 by omega), by rw [E.2.2.2]; exact (show ce + 5 ≤ 601024 by omega), by rw [E.2.2.2]; exact (show sl + 30 ≤ 7293034 by omega)⟩ (Nat.le_of_ble_eq_true rfl) (fun vv A s11 hA2 hq => ?_) (fun ee A s11 hA2 hq => ?_)
  rotate_left
  · obtain ⟨Is11, Fs11, e12, hv, hrs11, hps11⟩ := hq; cases hv
  obtain ⟨Is11, Fs11, e12, hv, hrs11, hps11⟩ := hq
  cases hv
  rw [← hA2 0 (by decide)]
  rw [← hA2 179 (by decide)]
  rw [← hA2 517 (by decide)]
  have Gs11 := fm_ts F Fs11 (by decide) (by decide)
  have JRLx_s11 : RLx s11 := RLx_fm Fs11 (by decide) jR
  have JFEQ_s11 : FEQ s11 := FEQ_fm Fs11 (by decide) jFEQ
  have ws11_0 : iI s11 0 = iI s 0 := fm_i Fs11 (by decide)
  have ws11_74 : iI s11 74 = iI s 74 := fm_i Fs11 (by decide)
  have ws11_9 : iI s11 9 = iI s 9 := fm_i Fs11 (by decide)
  have ws11_90 : iI s11 90 = iI s 90 := fm_i Fs11 (by decide)
  have ws11_12 : iI s11 12 = iI s 12 := fm_i Fs11 (by decide)
  have ws11_89 : iI s11 89 = iI s 89 := fm_i Fs11 (by decide)
  have wos11 : iO s11 = iO s := fm_o Fs11 (by decide)
  show WS k 470 [(0, .ref q1), (1, .ref (A 0)), (2, .ref (A 179)), (3, .ref (A 517)), (4, .int (Int32.ofInt i))] [.int (Int32.ofInt e12)] (Wd A dT s11) (ce + 5) (sl + 30)
  refine z_store X (lv' := [(5, .int (Int32.ofInt e12)), (0, .ref q1), (1, .ref (A 0)), (2, .ref (A 179)), (3, .ref (A 517)), (4, .int (Int32.ofInt i))]) (show cdA 350 470 = some (.istore 5, 2, 0, 0, 0) from rfl) (by decide) (fun _ h => h) ?_
  refine z_aload_n X (x := A 179) (show cdA 350 472 = some (.aload_n 2, 1, 0, 0, 0) from rfl) (List.Mem.tail _ (List.Mem.tail _ (List.Mem.tail _ (List.Mem.head _)))) ?_
  refine z_aload_n X (x := q1) (show cdA 350 473 = some (.aload_n 0, 1, 0, 0, 0) from rfl) (List.Mem.tail _ (List.Mem.head _)) ?_
  refine z_load X (x := i) (show cdA 350 474 = some (.iload 4, 2, 0, 0, 0) from rfl) (List.Mem.tail _ (List.Mem.tail _ (List.Mem.tail _ (List.Mem.tail _ (List.Mem.tail _ (List.Mem.head _)))))) ?_
  refine z_const X (show cdA 350 476 = some (.iconst 1, 1, 0, 0, 0) from rfl) ?_
  refine z_add X (show cdA 350 477 = some (.iadd, 1, 0, 0, 0) from rfl) ?_
  refine z_sld X S hL (show cdA 350 478 = some (.iaload, 1, 0, 0, 0) from rfl) (show 0 ≤ (i + 1) ∧ (i + 1) < (L : Int) by first | (clear hps11; omega) | omega) ?_
  have sr13 : rng (sc xs (i + 1)) := sc_rng
  refine z_aload_n X (x := q1) (show cdA 350 479 = some (.aload_n 0, 1, 0, 0, 0) from rfl) (List.Mem.tail _ (List.Mem.head _)) ?_
  refine z_load X (x := i) (show cdA 350 480 = some (.iload 4, 2, 0, 0, 0) from rfl) (List.Mem.tail _ (List.Mem.tail _ (List.Mem.tail _ (List.Mem.tail _ (List.Mem.tail _ (List.Mem.head _)))))) ?_
  refine z_const X (show cdA 350 482 = some (.iconst 2, 1, 0, 0, 0) from rfl) ?_
  refine z_add X (show cdA 350 483 = some (.iadd, 1, 0, 0, 0) from rfl) ?_
  refine z_sld X S hL (show cdA 350 484 = some (.iaload, 1, 0, 0, 0) from rfl) (show 0 ≤ (i + 2) ∧ (i + 2) < (L : Int) by first | (clear hps11; omega) | omega) ?_
  have sr14 : rng (sc xs (i + 2)) := sc_rng
  refine z_aload_n X (x := q1) (show cdA 350 485 = some (.aload_n 0, 1, 0, 0, 0) from rfl) (List.Mem.tail _ (List.Mem.head _)) ?_
  refine z_load X (x := i) (show cdA 350 486 = some (.iload 4, 2, 0, 0, 0) from rfl) (List.Mem.tail _ (List.Mem.tail _ (List.Mem.tail _ (List.Mem.tail _ (List.Mem.tail _ (List.Mem.head _)))))) ?_
  refine z_const X (show cdA 350 488 = some (.iconst 3, 1, 0, 0, 0) from rfl) ?_
  refine z_add X (show cdA 350 489 = some (.iadd, 1, 0, 0, 0) from rfl) ?_
  refine z_sld X S hL (show cdA 350 490 = some (.iaload, 1, 0, 0, 0) from rfl) (show 0 ≤ (i + 3) ∧ (i + 3) < (L : Int) by first | (clear hps11; omega) | omega) ?_
  have sr15 : rng (sc xs (i + 3)) := sc_rng
  refine z_aload_n X (x := q1) (show cdA 350 491 = some (.aload_n 0, 1, 0, 0, 0) from rfl) (List.Mem.tail _ (List.Mem.head _)) ?_
  refine z_load X (x := i) (show cdA 350 492 = some (.iload 4, 2, 0, 0, 0) from rfl) (List.Mem.tail _ (List.Mem.tail _ (List.Mem.tail _ (List.Mem.tail _ (List.Mem.tail _ (List.Mem.head _)))))) ?_
  refine z_const X (show cdA 350 494 = some (.iconst 4, 1, 0, 0, 0) from rfl) ?_
  refine z_add X (show cdA 350 495 = some (.iadd, 1, 0, 0, 0) from rfl) ?_
  refine z_sld X S hL (show cdA 350 496 = some (.iaload, 1, 0, 0, 0) from rfl) (show 0 ≤ (i + 4) ∧ (i + 4) < (L : Int) by first | (clear hps11; omega) | omega) ?_
  have sr16 : rng (sc xs (i + 4)) := sc_rng
  refine z_callV X 179 (rm := rmN 218) (As := [.int (Int32.ofInt (sc xs (i + 1))), .int (Int32.ofInt (sc xs (i + 2))), .int (Int32.ofInt (sc xs (i + 3))), .int (Int32.ofInt (sc xs (i + 4)))]) (st := []) (show cdA 350 497 = some (.invokevirtual 165, 3, 218, 0, 0) from rfl) rfl (by decide) rfl (by rw [E.1, E.2.1, E.2.2.1]; exact k_flow2 G Is11 (by first | exact ⟨sr13.1, sr13.2⟩ | omega) (by first | exact ⟨sr14.1, sr14.2⟩ | omega) (by first | exact ⟨sr15.1, sr15.2⟩ | omega) (by first | exact ⟨sr16.1, sr16.2⟩ | omega)) ⟨by rw [E.2.2.2]; exact (show 7 + 1 ≤ 2048 by first | (clear hps11; omega) | omega), by rw [E.2.2.2]; exact (show 8 + (6 + 11) + 122 ≤ 84000 by first | (clear hps11; omega) | omega), by rw [E.2.2.2]; exact (show (ce + 5) + 0 ≤ 601024 by first | (clear hps11; omega) | omega), by rw [E.2.2.2]; exact (show (sl + 30) + 0 ≤ 7293034 by first | (clear hps11; omega) | omega)⟩ (Nat.le_of_ble_eq_true rfl) (fun vv s17 hq => ?_) (fun ee s17 hq => ?_)
  rotate_left
  · obtain ⟨Is17, Fs17, hv, hps17⟩ := hq; cases hv
  obtain ⟨Is17, Fs17, hv, hps17⟩ := hq
  cases hv
  have Gs17 := fm_ts Gs11 Fs17 (by decide) (by decide)
  have JRLx_s17 : RLx s17 := RLx_fm Fs17 (by decide) JRLx_s11
  have JFEQ_s17 : FEQ s17 := FEQ_fm Fs17 (by decide) JFEQ_s11
  have ws17_0 : iI s17 0 = iI s11 0 := fm_i Fs17 (by decide)
  have ws17_74 : iI s17 74 = iI s11 74 := fm_i Fs17 (by decide)
  have ws17_9 : iI s17 9 = iI s11 9 := fm_i Fs17 (by decide)
  have ws17_90 : iI s17 90 = iI s11 90 := fm_i Fs17 (by decide)
  have ws17_12 : iI s17 12 = iI s11 12 := fm_i Fs17 (by decide)
  have ws17_89 : iI s17 89 = iI s11 89 := fm_i Fs17 (by decide)
  have wos17 : iO s17 = iO s11 := fm_o Fs17 (by decide)
  show WS k 500 [(5, .int (Int32.ofInt e12)), (0, .ref q1), (1, .ref (A 0)), (2, .ref (A 179)), (3, .ref (A 517)), (4, .int (Int32.ofInt i))] [] (Wd A dT s17) (ce + 5) (sl + 30)
  refine z_goto X (t := 1894) (show cdA 350 500 = some (.goto 1394, 3, 0, 0, 0) from rfl) (by decide) ?_
  refine w_widen (ce' := ce + 29) (sl' := sl + 222) (by first | (clear hps17 hps11; omega) | (clear hps11; omega) | omega) (by first | (clear hps17 hps11; omega) | (clear hps11; omega) | omega) ?_
  exact WS_lv (lv := [(0, .ref q1), (1, .ref (A 0)), (2, .ref (A 179)), (3, .ref (A 517)), (4, .int (Int32.ofInt i))]) (List.forall_mem_cons.mpr ⟨(List.Mem.tail _ (List.Mem.head _)), (List.forall_mem_cons.mpr ⟨(List.Mem.tail _ (List.Mem.tail _ (List.Mem.head _))), (List.forall_mem_cons.mpr ⟨(List.Mem.tail _ (List.Mem.tail _ (List.Mem.tail _ (List.Mem.head _)))), (List.forall_mem_cons.mpr ⟨(List.Mem.tail _ (List.Mem.tail _ (List.Mem.tail _ (List.Mem.tail _ (List.Mem.head _))))), (List.forall_mem_cons.mpr ⟨(List.Mem.tail _ (List.Mem.tail _ (List.Mem.tail _ (List.Mem.tail _ (List.Mem.tail _ (List.Mem.head _)))))), (fun q h => absurd h List.not_mem_nil)⟩)⟩)⟩)⟩)⟩) (hk A _ Is17 JRLx_s17 JFEQ_s17 (by first | (clear hps17 hps11; omega) | (clear hps11; omega) | omega) (by first | (clear hps17 hps11; omega) | (clear hps11; omega) | omega) (by first | (clear hps17 hps11; omega) | (clear hps11; omega) | omega) (by first | (clear hps17 hps11; omega) | (clear hps11; omega) | omega))
theorem lc_6 (G : GX l s0 D tys a0 dT) (GR : RS0 s0) (SF : SF0 s0) (GT : TXs0 s0) (GW : TXw0 s0) {k : kx_T} (X : AX k 350 dT) (E : kL k = l ∧ kS0 k = s0 ∧ kD k = D ∧ kR k = room_1) {q1 L : Nat} {xs : Nat → Int32} (S : SX k q1 L xs) (hL : L ≤ 3072) (I : Bd s) (jR : RLx s) (jFEQ : FEQ s) (p1 : iI s 89 = 1) (p2 : iI s 12 ≤ 8) (p3 : iI s 0 = iI s 74) (p4 : iI s 9 = iI s 90) {i : Int} (hi : 0 ≤ i ∧ i + 6 ≤ (L : Int)) {ce sl : Nat} (hce : ce + 29 ≤ 601024) (hsl : sl + 222 ≤ 7293034) (hk : ∀ (A : Nat → Nat) (t : PS), Bd t → RLx t → FEQ t → iI t 89 = 1 → iI t 12 ≤ 8 → iI t 0 = iI t 74 → iI t 9 = iI t 90 → WS k 1894 [(0, .ref q1), (1, .ref (A 0)), (2, .ref (A 179)), (3, .ref (A 517)), (4, .int (Int32.ofInt i))] [] (Wd A dT t) (ce + 29) (sl + 222)) : WS k 503 [(0, .ref q1), (1, .ref (A 0)), (2, .ref (A 179)), (3, .ref (A 517)), (4, .int (Int32.ofInt i))] [] (Wd A dT s) ce sl := by
  have F : Fm [73] [9, 10, 11, 12, 13, 14, 163, 164] s s := fm_rf _ _ s
  have b1 : (0 : Int) ≤ iI s 0 ∧ iI s 0 ≤ 200 := I.1 0
  have b2 : (0 : Int) ≤ iI s 74 ∧ iI s 74 ≤ 200 := I.1 74
  have b3 : (0 : Int) ≤ iI s 9 ∧ iI s 9 ≤ 12 := I.1 9
  have b4 : (0 : Int) ≤ iI s 90 ∧ iI s 90 ≤ 12 := I.1 90
  have b5 : (0 : Int) ≤ iI s 12 ∧ iI s 12 ≤ 9 := I.1 12
  have b6 : (1 : Int) ≤ iI s 89 ∧ iI s 89 ≤ 8 := I.1 89
  refine z_aload_n X (x := A 0) (show cdA 350 503 = some (.aload_n 1, 1, 0, 0, 0) from rfl) (List.Mem.tail _ (List.Mem.head _)) ?_
  refine z_aload_n X (x := q1) (show cdA 350 504 = some (.aload_n 0, 1, 0, 0, 0) from rfl) (List.Mem.head _) ?_
  refine z_load X (x := i) (show cdA 350 505 = some (.iload 4, 2, 0, 0, 0) from rfl) (List.Mem.tail _ (List.Mem.tail _ (List.Mem.tail _ (List.Mem.tail _ (List.Mem.head _))))) ?_
  refine z_const X (show cdA 350 507 = some (.iconst 1, 1, 0, 0, 0) from rfl) ?_
  refine z_add X (show cdA 350 508 = some (.iadd, 1, 0, 0, 0) from rfl) ?_
  refine z_sld X S hL (show cdA 350 509 = some (.iaload, 1, 0, 0, 0) from rfl) (show 0 ≤ (i + 1) ∧ (i + 1) < (L : Int) by omega) ?_
  have sr7 : rng (sc xs (i + 1)) := sc_rng
  refine z_aload_n X (x := q1) (show cdA 350 510 = some (.aload_n 0, 1, 0, 0, 0) from rfl) (List.Mem.head _) ?_
  refine z_load X (x := i) (show cdA 350 511 = some (.iload 4, 2, 0, 0, 0) from rfl) (List.Mem.tail _ (List.Mem.tail _ (List.Mem.tail _ (List.Mem.tail _ (List.Mem.head _))))) ?_
  refine z_const X (show cdA 350 513 = some (.iconst 2, 1, 0, 0, 0) from rfl) ?_
  refine z_add X (show cdA 350 514 = some (.iadd, 1, 0, 0, 0) from rfl) ?_
  refine z_sld X S hL (show cdA 350 515 = some (.iaload, 1, 0, 0, 0) from rfl) (show 0 ≤ (i + 2) ∧ (i + 2) < (L : Int) by omega) ?_
  have sr8 : rng (sc xs (i + 2)) := sc_rng
  refine z_aload_n X (x := q1) (show cdA 350 516 = some (.aload_n 0, 1, 0, 0, 0) from rfl) (List.Mem.head _) ?_
  refine z_load X (x := i) (show cdA 350 517 = some (.iload 4, 2, 0, 0, 0) from rfl) (List.Mem.tail _ (List.Mem.tail _ (List.Mem.tail _ (List.Mem.tail _ (List.Mem.head _))))) ?_
  refine z_const X (show cdA 350 519 = some (.iconst 3, 1, 0, 0, 0) from rfl) ?_
  refine z_add X (show cdA 350 520 = some (.iadd, 1, 0, 0, 0) from rfl) ?_
  refine z_sld X S hL (show cdA 350 521 = some (.iaload, 1, 0, 0, 0) from rfl) (show 0 ≤ (i + 3) ∧ (i + 3) < (L : Int) by omega) ?_
  have sr9 : rng (sc xs (i + 3)) := sc_rng
  refine z_callL X (rm := rmN 318) (As := [.ref (A 0), .int (Int32.ofInt (sc xs (i + 1))), .int (Int32.ofInt (sc xs (i + 2))), .int (Int32.ofInt (sc xs (i + 3)))]) (st := []) (show cdA 350 522 = some (.invokestatic 166, 3, 318, 6, 0) from rfl) (by decide) rfl (by rw [E.1, E.2.1, E.2.2.1]; exact lw_span2 G I (by omega) (by omega) (by omega)) ⟨by rw [E.2.2.2]; exact (show 11 + 1 ≤ 2048 by omega), by rw [E.2.2.2]; exact (show 8 + (5 + 11) + 216 ≤ 84000 by omega), by rw [E.2.2.2]; exact (show ce + 3 ≤ 601024 by omega), by rw [E.2.2.2]; exact (show sl + 18 ≤ 7293034 by omega)⟩ (Nat.le_of_ble_eq_true rfl) (fun vv A s10 hA2 hq => ?_) (fun ee A s10 hA2 hq => ?_)
  rotate_left
  · obtain ⟨Is10, Fs10, e11, hv, hrs10, hps10⟩ := hq; cases hv
  obtain ⟨Is10, Fs10, e11, hv, hrs10, hps10⟩ := hq
  cases hv
  rw [← hA2 0 (by decide)]
  rw [← hA2 179 (by decide)]
  rw [← hA2 517 (by decide)]
  have Gs10 := fm_ts F Fs10 (by decide) (by decide)
  have JRLx_s10 : RLx s10 := RLx_fm Fs10 (by decide) jR
  have JFEQ_s10 : FEQ s10 := FEQ_fm Fs10 (by decide) jFEQ
  have ws10_0 : iI s10 0 = iI s 0 := fm_i Fs10 (by decide)
  have ws10_74 : iI s10 74 = iI s 74 := fm_i Fs10 (by decide)
  have ws10_9 : iI s10 9 = iI s 9 := fm_i Fs10 (by decide)
  have ws10_90 : iI s10 90 = iI s 90 := fm_i Fs10 (by decide)
  have ws10_12 : iI s10 12 = iI s 12 := fm_i Fs10 (by decide)
  have ws10_89 : iI s10 89 = iI s 89 := fm_i Fs10 (by decide)
  have wos10 : iO s10 = iO s := fm_o Fs10 (by decide)
  show WS k 525 [(0, .ref q1), (1, .ref (A 0)), (2, .ref (A 179)), (3, .ref (A 517)), (4, .int (Int32.ofInt i))] [.int (Int32.ofInt e11)] (Wd A dT s10) (ce + 3) (sl + 18)
  refine z_store X (lv' := [(5, .int (Int32.ofInt e11)), (0, .ref q1), (1, .ref (A 0)), (2, .ref (A 179)), (3, .ref (A 517)), (4, .int (Int32.ofInt i))]) (show cdA 350 525 = some (.istore 5, 2, 0, 0, 0) from rfl) (by decide) (fun _ h => h) ?_
  refine z_aload_n X (x := A 179) (show cdA 350 527 = some (.aload_n 2, 1, 0, 0, 0) from rfl) (List.Mem.tail _ (List.Mem.tail _ (List.Mem.tail _ (List.Mem.head _)))) ?_
  refine z_aload_n X (x := q1) (show cdA 350 528 = some (.aload_n 0, 1, 0, 0, 0) from rfl) (List.Mem.tail _ (List.Mem.head _)) ?_
  refine z_load X (x := i) (show cdA 350 529 = some (.iload 4, 2, 0, 0, 0) from rfl) (List.Mem.tail _ (List.Mem.tail _ (List.Mem.tail _ (List.Mem.tail _ (List.Mem.tail _ (List.Mem.head _)))))) ?_
  refine z_const X (show cdA 350 531 = some (.iconst 1, 1, 0, 0, 0) from rfl) ?_
  refine z_add X (show cdA 350 532 = some (.iadd, 1, 0, 0, 0) from rfl) ?_
  refine z_sld X S hL (show cdA 350 533 = some (.iaload, 1, 0, 0, 0) from rfl) (show 0 ≤ (i + 1) ∧ (i + 1) < (L : Int) by first | (clear hps10; omega) | omega) ?_
  have sr12 : rng (sc xs (i + 1)) := sc_rng
  refine z_aload_n X (x := q1) (show cdA 350 534 = some (.aload_n 0, 1, 0, 0, 0) from rfl) (List.Mem.tail _ (List.Mem.head _)) ?_
  refine z_load X (x := i) (show cdA 350 535 = some (.iload 4, 2, 0, 0, 0) from rfl) (List.Mem.tail _ (List.Mem.tail _ (List.Mem.tail _ (List.Mem.tail _ (List.Mem.tail _ (List.Mem.head _)))))) ?_
  refine z_const X (show cdA 350 537 = some (.iconst 2, 1, 0, 0, 0) from rfl) ?_
  refine z_add X (show cdA 350 538 = some (.iadd, 1, 0, 0, 0) from rfl) ?_
  refine z_sld X S hL (show cdA 350 539 = some (.iaload, 1, 0, 0, 0) from rfl) (show 0 ≤ (i + 2) ∧ (i + 2) < (L : Int) by first | (clear hps10; omega) | omega) ?_
  have sr13 : rng (sc xs (i + 2)) := sc_rng
  refine z_aload_n X (x := q1) (show cdA 350 540 = some (.aload_n 0, 1, 0, 0, 0) from rfl) (List.Mem.tail _ (List.Mem.head _)) ?_
  refine z_load X (x := i) (show cdA 350 541 = some (.iload 4, 2, 0, 0, 0) from rfl) (List.Mem.tail _ (List.Mem.tail _ (List.Mem.tail _ (List.Mem.tail _ (List.Mem.tail _ (List.Mem.head _)))))) ?_
  refine z_const X (show cdA 350 543 = some (.iconst 3, 1, 0, 0, 0) from rfl) ?_
  refine z_add X (show cdA 350 544 = some (.iadd, 1, 0, 0, 0) from rfl) ?_
  refine z_sld X S hL (show cdA 350 545 = some (.iaload, 1, 0, 0, 0) from rfl) (show 0 ≤ (i + 3) ∧ (i + 3) < (L : Int) by first | (clear hps10; omega) | omega) ?_
  have sr14 : rng (sc xs (i + 3)) := sc_rng
  refine z_callV X 179 (rm := rmN 219) (As := [.int (Int32.ofInt (sc xs (i + 1))), .int (Int32.ofInt (sc xs (i + 2))), .int (Int32.ofInt (sc xs (i + 3)))]) (st := []) (show cdA 350 546 = some (.invokevirtual 169, 3, 219, 0, 0) from rfl) rfl (by decide) rfl (by rw [E.1, E.2.1, E.2.2.1]; exact k_span2 G Is10 (by first | exact ⟨sr12.1, sr12.2⟩ | omega) (by first | exact ⟨sr13.1, sr13.2⟩ | omega) (by first | exact ⟨sr14.1, sr14.2⟩ | omega)) ⟨by rw [E.2.2.2]; exact (show 7 + 1 ≤ 2048 by first | (clear hps10; omega) | omega), by rw [E.2.2.2]; exact (show 8 + (4 + 11) + 122 ≤ 84000 by first | (clear hps10; omega) | omega), by rw [E.2.2.2]; exact (show (ce + 3) + 0 ≤ 601024 by first | (clear hps10; omega) | omega), by rw [E.2.2.2]; exact (show (sl + 18) + 0 ≤ 7293034 by first | (clear hps10; omega) | omega)⟩ (Nat.le_of_ble_eq_true rfl) (fun vv s15 hq => ?_) (fun ee s15 hq => ?_)
  rotate_left
  · obtain ⟨Is15, Fs15, hv, hps15⟩ := hq; cases hv
  obtain ⟨Is15, Fs15, hv, hps15⟩ := hq
  cases hv
  have Gs15 := fm_ts Gs10 Fs15 (by decide) (by decide)
  have JRLx_s15 : RLx s15 := RLx_fm Fs15 (by decide) JRLx_s10
  have JFEQ_s15 : FEQ s15 := FEQ_fm Fs15 (by decide) JFEQ_s10
  have ws15_0 : iI s15 0 = iI s10 0 := fm_i Fs15 (by decide)
  have ws15_74 : iI s15 74 = iI s10 74 := fm_i Fs15 (by decide)
  have ws15_9 : iI s15 9 = iI s10 9 := fm_i Fs15 (by decide)
  have ws15_90 : iI s15 90 = iI s10 90 := fm_i Fs15 (by decide)
  have ws15_12 : iI s15 12 = iI s10 12 := fm_i Fs15 (by decide)
  have ws15_89 : iI s15 89 = iI s10 89 := fm_i Fs15 (by decide)
  have wos15 : iO s15 = iO s10 := fm_o Fs15 (by decide)
  show WS k 549 [(5, .int (Int32.ofInt e11)), (0, .ref q1), (1, .ref (A 0)), (2, .ref (A 179)), (3, .ref (A 517)), (4, .int (Int32.ofInt i))] [] (Wd A dT s15) (ce + 3) (sl + 18)
  refine z_goto X (t := 1894) (show cdA 350 549 = some (.goto 1345, 3, 0, 0, 0) from rfl) (by decide) ?_
  refine w_widen (ce' := ce + 29) (sl' := sl + 222) (by first | (clear hps15 hps10; omega) | (clear hps10; omega) | omega) (by first | (clear hps15 hps10; omega) | (clear hps10; omega) | omega) ?_
  exact WS_lv (lv := [(0, .ref q1), (1, .ref (A 0)), (2, .ref (A 179)), (3, .ref (A 517)), (4, .int (Int32.ofInt i))]) (List.forall_mem_cons.mpr ⟨(List.Mem.tail _ (List.Mem.head _)), (List.forall_mem_cons.mpr ⟨(List.Mem.tail _ (List.Mem.tail _ (List.Mem.head _))), (List.forall_mem_cons.mpr ⟨(List.Mem.tail _ (List.Mem.tail _ (List.Mem.tail _ (List.Mem.head _)))), (List.forall_mem_cons.mpr ⟨(List.Mem.tail _ (List.Mem.tail _ (List.Mem.tail _ (List.Mem.tail _ (List.Mem.head _))))), (List.forall_mem_cons.mpr ⟨(List.Mem.tail _ (List.Mem.tail _ (List.Mem.tail _ (List.Mem.tail _ (List.Mem.tail _ (List.Mem.head _)))))), (fun q h => absurd h List.not_mem_nil)⟩)⟩)⟩)⟩)⟩) (hk A _ Is15 JRLx_s15 JFEQ_s15 (by first | (clear hps15 hps10; omega) | (clear hps10; omega) | omega) (by first | (clear hps15 hps10; omega) | (clear hps10; omega) | omega) (by first | (clear hps15 hps10; omega) | (clear hps10; omega) | omega) (by first | (clear hps15 hps10; omega) | (clear hps10; omega) | omega))
theorem lc_7 (G : GX l s0 D tys a0 dT) (GR : RS0 s0) (SF : SF0 s0) (GT : TXs0 s0) (GW : TXw0 s0) {k : kx_T} (X : AX k 350 dT) (E : kL k = l ∧ kS0 k = s0 ∧ kD k = D ∧ kR k = room_1) {q1 L : Nat} {xs : Nat → Int32} (S : SX k q1 L xs) (hL : L ≤ 3072) (I : Bd s) (jR : RLx s) (jFEQ : FEQ s) (p1 : iI s 89 = 1) (p2 : iI s 12 ≤ 8) (p3 : iI s 0 = iI s 74) (p4 : iI s 9 = iI s 90) {i : Int} (hi : 0 ≤ i ∧ i + 6 ≤ (L : Int)) {ce sl : Nat} (hce : ce + 29 ≤ 601024) (hsl : sl + 222 ≤ 7293034) (hk : ∀ (A : Nat → Nat) (t : PS), Bd t → RLx t → FEQ t → iI t 89 = 1 → iI t 12 ≤ 8 → iI t 0 = iI t 74 → iI t 9 = iI t 90 → WS k 1894 [(0, .ref q1), (1, .ref (A 0)), (2, .ref (A 179)), (3, .ref (A 517)), (4, .int (Int32.ofInt i))] [] (Wd A dT t) (ce + 29) (sl + 222)) : WS k 552 [(0, .ref q1), (1, .ref (A 0)), (2, .ref (A 179)), (3, .ref (A 517)), (4, .int (Int32.ofInt i))] [] (Wd A dT s) ce sl := by
  have F : Fm [73] [1460] s s := fm_rf _ _ s
  have b1 : (0 : Int) ≤ iI s 0 ∧ iI s 0 ≤ 200 := I.1 0
  have b2 : (0 : Int) ≤ iI s 74 ∧ iI s 74 ≤ 200 := I.1 74
  have b3 : (0 : Int) ≤ iI s 9 ∧ iI s 9 ≤ 12 := I.1 9
  have b4 : (0 : Int) ≤ iI s 90 ∧ iI s 90 ≤ 12 := I.1 90
  have b5 : (0 : Int) ≤ iI s 12 ∧ iI s 12 ≤ 9 := I.1 12
  have b6 : (1 : Int) ≤ iI s 89 ∧ iI s 89 ≤ 8 := I.1 89
  refine z_aload_n X (x := A 0) (show cdA 350 552 = some (.aload_n 1, 1, 0, 0, 0) from rfl) (List.Mem.tail _ (List.Mem.head _)) ?_
  refine z_aload_n X (x := q1) (show cdA 350 553 = some (.aload_n 0, 1, 0, 0, 0) from rfl) (List.Mem.head _) ?_
  refine z_load X (x := i) (show cdA 350 554 = some (.iload 4, 2, 0, 0, 0) from rfl) (List.Mem.tail _ (List.Mem.tail _ (List.Mem.tail _ (List.Mem.tail _ (List.Mem.head _))))) ?_
  refine z_const X (show cdA 350 556 = some (.iconst 1, 1, 0, 0, 0) from rfl) ?_
  refine z_add X (show cdA 350 557 = some (.iadd, 1, 0, 0, 0) from rfl) ?_
  refine z_sld X S hL (show cdA 350 558 = some (.iaload, 1, 0, 0, 0) from rfl) (show 0 ≤ (i + 1) ∧ (i + 1) < (L : Int) by omega) ?_
  have sr7 : rng (sc xs (i + 1)) := sc_rng
  refine z_aload_n X (x := q1) (show cdA 350 559 = some (.aload_n 0, 1, 0, 0, 0) from rfl) (List.Mem.head _) ?_
  refine z_load X (x := i) (show cdA 350 560 = some (.iload 4, 2, 0, 0, 0) from rfl) (List.Mem.tail _ (List.Mem.tail _ (List.Mem.tail _ (List.Mem.tail _ (List.Mem.head _))))) ?_
  refine z_const X (show cdA 350 562 = some (.iconst 2, 1, 0, 0, 0) from rfl) ?_
  refine z_add X (show cdA 350 563 = some (.iadd, 1, 0, 0, 0) from rfl) ?_
  refine z_sld X S hL (show cdA 350 564 = some (.iaload, 1, 0, 0, 0) from rfl) (show 0 ≤ (i + 2) ∧ (i + 2) < (L : Int) by omega) ?_
  have sr8 : rng (sc xs (i + 2)) := sc_rng
  refine z_aload_n X (x := A 517) (show cdA 350 565 = some (.aload_n 3, 1, 0, 0, 0) from rfl) (List.Mem.tail _ (List.Mem.tail _ (List.Mem.tail _ (List.Mem.head _)))) ?_
  refine z_callL X (rm := rmN 319) (As := [.ref (A 0), .int (Int32.ofInt (sc xs (i + 1))), .int (Int32.ofInt (sc xs (i + 2))), .ref (A 517)]) (st := []) (show cdA 350 566 = some (.invokestatic 170, 3, 319, 6, 0) from rfl) (by decide) rfl (by rw [E.1, E.2.1, E.2.2.1]; exact lw_most G I (by omega) (by omega)) ⟨by rw [E.2.2.2]; exact (show 9 + 1 ≤ 2048 by omega), by rw [E.2.2.2]; exact (show 8 + (5 + 11) + 166 ≤ 84000 by omega), by rw [E.2.2.2]; exact (show ce + 2 ≤ 601024 by omega), by rw [E.2.2.2]; exact (show sl + 12 ≤ 7293034 by omega)⟩ (Nat.le_of_ble_eq_true rfl) (fun vv A s9 hA2 hq => ?_) (fun ee A s9 hA2 hq => ?_)
  rotate_left
  · obtain ⟨Is9, Fs9, e10, hv, hrs9, hps9⟩ := hq; cases hv
  obtain ⟨Is9, Fs9, e10, hv, hrs9, hps9⟩ := hq
  cases hv
  rw [← hA2 0 (by decide)]
  rw [← hA2 179 (by decide)]
  rw [← hA2 517 (by decide)]
  have Gs9 := fm_ts F Fs9 (by decide) (by decide)
  have JRLx_s9 : RLx s9 := RLx_fm Fs9 (by decide) jR
  have JFEQ_s9 : FEQ s9 := FEQ_fm Fs9 (by decide) jFEQ
  have ws9_0 : iI s9 0 = iI s 0 := fm_i Fs9 (by decide)
  have ws9_74 : iI s9 74 = iI s 74 := fm_i Fs9 (by decide)
  have ws9_9 : iI s9 9 = iI s 9 := fm_i Fs9 (by decide)
  have ws9_90 : iI s9 90 = iI s 90 := fm_i Fs9 (by decide)
  have ws9_12 : iI s9 12 = iI s 12 := fm_i Fs9 (by decide)
  have ws9_89 : iI s9 89 = iI s 89 := fm_i Fs9 (by decide)
  show WS k 569 [(0, .ref q1), (1, .ref (A 0)), (2, .ref (A 179)), (3, .ref (A 517)), (4, .int (Int32.ofInt i))] [.int (Int32.ofInt e10)] (Wd A dT s9) (ce + 2) (sl + 12)
  refine z_store X (lv' := [(5, .int (Int32.ofInt e10)), (0, .ref q1), (1, .ref (A 0)), (2, .ref (A 179)), (3, .ref (A 517)), (4, .int (Int32.ofInt i))]) (show cdA 350 569 = some (.istore 5, 2, 0, 0, 0) from rfl) (by decide) (fun _ h => h) ?_
  refine z_aload_n X (x := A 179) (show cdA 350 571 = some (.aload_n 2, 1, 0, 0, 0) from rfl) (List.Mem.tail _ (List.Mem.tail _ (List.Mem.tail _ (List.Mem.head _)))) ?_
  refine z_aload_n X (x := q1) (show cdA 350 572 = some (.aload_n 0, 1, 0, 0, 0) from rfl) (List.Mem.tail _ (List.Mem.head _)) ?_
  refine z_load X (x := i) (show cdA 350 573 = some (.iload 4, 2, 0, 0, 0) from rfl) (List.Mem.tail _ (List.Mem.tail _ (List.Mem.tail _ (List.Mem.tail _ (List.Mem.tail _ (List.Mem.head _)))))) ?_
  refine z_const X (show cdA 350 575 = some (.iconst 1, 1, 0, 0, 0) from rfl) ?_
  refine z_add X (show cdA 350 576 = some (.iadd, 1, 0, 0, 0) from rfl) ?_
  refine z_sld X S hL (show cdA 350 577 = some (.iaload, 1, 0, 0, 0) from rfl) (show 0 ≤ (i + 1) ∧ (i + 1) < (L : Int) by omega) ?_
  have sr11 : rng (sc xs (i + 1)) := sc_rng
  refine z_aload_n X (x := q1) (show cdA 350 578 = some (.aload_n 0, 1, 0, 0, 0) from rfl) (List.Mem.tail _ (List.Mem.head _)) ?_
  refine z_load X (x := i) (show cdA 350 579 = some (.iload 4, 2, 0, 0, 0) from rfl) (List.Mem.tail _ (List.Mem.tail _ (List.Mem.tail _ (List.Mem.tail _ (List.Mem.tail _ (List.Mem.head _)))))) ?_
  refine z_const X (show cdA 350 581 = some (.iconst 2, 1, 0, 0, 0) from rfl) ?_
  refine z_add X (show cdA 350 582 = some (.iadd, 1, 0, 0, 0) from rfl) ?_
  refine z_sld X S hL (show cdA 350 583 = some (.iaload, 1, 0, 0, 0) from rfl) (show 0 ≤ (i + 2) ∧ (i + 2) < (L : Int) by omega) ?_
  have sr12 : rng (sc xs (i + 2)) := sc_rng
  refine z_callV X 179 (rm := rmN 221) (As := [.int (Int32.ofInt (sc xs (i + 1))), .int (Int32.ofInt (sc xs (i + 2)))]) (st := []) (show cdA 350 584 = some (.invokevirtual 172, 3, 221, 0, 0) from rfl) rfl (by decide) rfl (by rw [E.1, E.2.1, E.2.2.1]; exact k_most G Is9 (by first | exact ⟨sr11.1, sr11.2⟩ | omega) (by first | exact ⟨sr12.1, sr12.2⟩ | omega)) ⟨by rw [E.2.2.2]; exact (show 8 + 1 ≤ 2048 by omega), by rw [E.2.2.2]; exact (show 8 + (3 + 11) + 146 ≤ 84000 by omega), by rw [E.2.2.2]; exact (show (ce + 2) + 0 ≤ 601024 by omega), by rw [E.2.2.2]; exact (show (sl + 12) + 0 ≤ 7293034 by omega)⟩ (Nat.le_of_ble_eq_true rfl) (fun vv s13 hq => ?_) (fun ee s13 hq => ?_)
  rotate_left
  · obtain ⟨Is13, Fs13, e14, hv, hrs13, hps13⟩ := hq; cases hv
  obtain ⟨Is13, Fs13, e14, hv, hrs13, hps13⟩ := hq
  cases hv
  have Gs13 := fm_ts Gs9 Fs13 (by decide) (by decide)
  have JRLx_s13 : RLx s13 := RLx_fm Fs13 (by decide) JRLx_s9
  have JFEQ_s13 : FEQ s13 := FEQ_fm Fs13 (by decide) JFEQ_s9
  have ws13_0 : iI s13 0 = iI s9 0 := fm_i Fs13 (by decide)
  have ws13_74 : iI s13 74 = iI s9 74 := fm_i Fs13 (by decide)
  have ws13_9 : iI s13 9 = iI s9 9 := fm_i Fs13 (by decide)
  have ws13_90 : iI s13 90 = iI s9 90 := fm_i Fs13 (by decide)
  have ws13_12 : iI s13 12 = iI s9 12 := fm_i Fs13 (by decide)
  have ws13_89 : iI s13 89 = iI s9 89 := fm_i Fs13 (by decide)
  have wos13 : iO s13 = iO s9 := fm_o Fs13 (by decide)
  show WS k 587 [(5, .int (Int32.ofInt e10)), (0, .ref q1), (1, .ref (A 0)), (2, .ref (A 179)), (3, .ref (A 517)), (4, .int (Int32.ofInt i))] [.int (Int32.ofInt e14)] (Wd A dT s13) (ce + 2) (sl + 12)
  refine z_store X (lv' := [(6, .int (Int32.ofInt e14)), (5, .int (Int32.ofInt e10)), (0, .ref q1), (1, .ref (A 0)), (2, .ref (A 179)), (3, .ref (A 517)), (4, .int (Int32.ofInt i))]) (show cdA 350 587 = some (.istore 6, 2, 0, 0, 0) from rfl) (by decide) (fun _ h => h) ?_
  refine z_goto X (t := 1894) (show cdA 350 589 = some (.goto 1305, 3, 0, 0, 0) from rfl) (by decide) ?_
  refine w_widen (ce' := ce + 29) (sl' := sl + 222) (by omega) (by omega) ?_
  exact WS_lv (lv := [(0, .ref q1), (1, .ref (A 0)), (2, .ref (A 179)), (3, .ref (A 517)), (4, .int (Int32.ofInt i))]) (List.forall_mem_cons.mpr ⟨(List.Mem.tail _ (List.Mem.tail _ (List.Mem.head _))), (List.forall_mem_cons.mpr ⟨(List.Mem.tail _ (List.Mem.tail _ (List.Mem.tail _ (List.Mem.head _)))), (List.forall_mem_cons.mpr ⟨(List.Mem.tail _ (List.Mem.tail _ (List.Mem.tail _ (List.Mem.tail _ (List.Mem.head _))))), (List.forall_mem_cons.mpr ⟨(List.Mem.tail _ (List.Mem.tail _ (List.Mem.tail _ (List.Mem.tail _ (List.Mem.tail _ (List.Mem.head _)))))), (List.forall_mem_cons.mpr ⟨(List.Mem.tail _ (List.Mem.tail _ (List.Mem.tail _ (List.Mem.tail _ (List.Mem.tail _ (List.Mem.tail _ (List.Mem.head _))))))), (fun q h => absurd h List.not_mem_nil)⟩)⟩)⟩)⟩)⟩) (hk A _ Is13 JRLx_s13 JFEQ_s13 (by omega) (by omega) (by omega) (by omega))
theorem lc_8 (G : GX l s0 D tys a0 dT) (GR : RS0 s0) (SF : SF0 s0) (GT : TXs0 s0) (GW : TXw0 s0) {k : kx_T} (X : AX k 350 dT) (E : kL k = l ∧ kS0 k = s0 ∧ kD k = D ∧ kR k = room_1) {q1 L : Nat} {xs : Nat → Int32} (S : SX k q1 L xs) (hL : L ≤ 3072) (I : Bd s) (jR : RLx s) (jFEQ : FEQ s) (p1 : iI s 89 = 1) (p2 : iI s 12 ≤ 8) (p3 : iI s 0 = iI s 74) (p4 : iI s 9 = iI s 90) {i : Int} (hi : 0 ≤ i ∧ i + 6 ≤ (L : Int)) {ce sl : Nat} (hce : ce + 29 ≤ 601024) (hsl : sl + 222 ≤ 7293034) (hk : ∀ (A : Nat → Nat) (t : PS), Bd t → RLx t → FEQ t → iI t 89 = 1 → iI t 12 ≤ 8 → iI t 0 = iI t 74 → iI t 9 = iI t 90 → WS k 1894 [(0, .ref q1), (1, .ref (A 0)), (2, .ref (A 179)), (3, .ref (A 517)), (4, .int (Int32.ofInt i))] [] (Wd A dT t) (ce + 29) (sl + 222)) : WS k 592 [(0, .ref q1), (1, .ref (A 0)), (2, .ref (A 179)), (3, .ref (A 517)), (4, .int (Int32.ofInt i))] [] (Wd A dT s) ce sl := by
  have F : Fm [73] [21, 1022, 1023, 1460, 228] s s := fm_rf _ _ s
  have b1 : (0 : Int) ≤ iI s 0 ∧ iI s 0 ≤ 200 := I.1 0
  have b2 : (0 : Int) ≤ iI s 74 ∧ iI s 74 ≤ 200 := I.1 74
  have b3 : (0 : Int) ≤ iI s 9 ∧ iI s 9 ≤ 12 := I.1 9
  have b4 : (0 : Int) ≤ iI s 90 ∧ iI s 90 ≤ 12 := I.1 90
  have b5 : (0 : Int) ≤ iI s 12 ∧ iI s 12 ≤ 9 := I.1 12
  have b6 : (1 : Int) ≤ iI s 89 ∧ iI s 89 ≤ 8 := I.1 89
  refine z_aload_n X (x := A 0) (show cdA 350 592 = some (.aload_n 1, 1, 0, 0, 0) from rfl) (List.Mem.tail _ (List.Mem.head _)) ?_
  refine z_aload_n X (x := q1) (show cdA 350 593 = some (.aload_n 0, 1, 0, 0, 0) from rfl) (List.Mem.head _) ?_
  refine z_load X (x := i) (show cdA 350 594 = some (.iload 4, 2, 0, 0, 0) from rfl) (List.Mem.tail _ (List.Mem.tail _ (List.Mem.tail _ (List.Mem.tail _ (List.Mem.head _))))) ?_
  refine z_const X (show cdA 350 596 = some (.iconst 1, 1, 0, 0, 0) from rfl) ?_
  refine z_add X (show cdA 350 597 = some (.iadd, 1, 0, 0, 0) from rfl) ?_
  refine z_sld X S hL (show cdA 350 598 = some (.iaload, 1, 0, 0, 0) from rfl) (show 0 ≤ (i + 1) ∧ (i + 1) < (L : Int) by omega) ?_
  have sr7 : rng (sc xs (i + 1)) := sc_rng
  refine z_aload_n X (x := q1) (show cdA 350 599 = some (.aload_n 0, 1, 0, 0, 0) from rfl) (List.Mem.head _) ?_
  refine z_load X (x := i) (show cdA 350 600 = some (.iload 4, 2, 0, 0, 0) from rfl) (List.Mem.tail _ (List.Mem.tail _ (List.Mem.tail _ (List.Mem.tail _ (List.Mem.head _))))) ?_
  refine z_const X (show cdA 350 602 = some (.iconst 2, 1, 0, 0, 0) from rfl) ?_
  refine z_add X (show cdA 350 603 = some (.iadd, 1, 0, 0, 0) from rfl) ?_
  refine z_sld X S hL (show cdA 350 604 = some (.iaload, 1, 0, 0, 0) from rfl) (show 0 ≤ (i + 2) ∧ (i + 2) < (L : Int) by omega) ?_
  have sr8 : rng (sc xs (i + 2)) := sc_rng
  refine z_aload_n X (x := A 517) (show cdA 350 605 = some (.aload_n 3, 1, 0, 0, 0) from rfl) (List.Mem.tail _ (List.Mem.tail _ (List.Mem.tail _ (List.Mem.head _)))) ?_
  refine z_callL X (rm := rmN 320) (As := [.ref (A 0), .int (Int32.ofInt (sc xs (i + 1))), .int (Int32.ofInt (sc xs (i + 2))), .ref (A 517)]) (st := []) (show cdA 350 606 = some (.invokestatic 173, 3, 320, 6, 0) from rfl) (by decide) rfl (by rw [E.1, E.2.1, E.2.2.1]; exact lw_assign G I (by omega) (by omega)) ⟨by rw [E.2.2.2]; exact (show 8 + 1 ≤ 2048 by omega), by rw [E.2.2.2]; exact (show 8 + (5 + 11) + 148 ≤ 84000 by omega), by rw [E.2.2.2]; exact (show ce + 2 ≤ 601024 by omega), by rw [E.2.2.2]; exact (show sl + 12 ≤ 7293034 by omega)⟩ (Nat.le_of_ble_eq_true rfl) (fun vv A s9 hA2 hq => ?_) (fun ee A s9 hA2 hq => ?_)
  rotate_left
  · obtain ⟨Is9, Fs9, e10, hv, hrs9, hps9⟩ := hq; cases hv
  obtain ⟨Is9, Fs9, e10, hv, hrs9, hps9⟩ := hq
  cases hv
  rw [← hA2 0 (by decide)]
  rw [← hA2 179 (by decide)]
  rw [← hA2 517 (by decide)]
  have Gs9 := fm_ts F Fs9 (by decide) (by decide)
  have JRLx_s9 : RLx s9 := RLx_fm Fs9 (by decide) jR
  have JFEQ_s9 : FEQ s9 := FEQ_fm Fs9 (by decide) jFEQ
  have ws9_0 : iI s9 0 = iI s 0 := fm_i Fs9 (by decide)
  have ws9_74 : iI s9 74 = iI s 74 := fm_i Fs9 (by decide)
  have ws9_9 : iI s9 9 = iI s 9 := fm_i Fs9 (by decide)
  have ws9_90 : iI s9 90 = iI s 90 := fm_i Fs9 (by decide)
  have ws9_12 : iI s9 12 = iI s 12 := fm_i Fs9 (by decide)
  have ws9_89 : iI s9 89 = iI s 89 := fm_i Fs9 (by decide)
  show WS k 609 [(0, .ref q1), (1, .ref (A 0)), (2, .ref (A 179)), (3, .ref (A 517)), (4, .int (Int32.ofInt i))] [.int (Int32.ofInt e10)] (Wd A dT s9) (ce + 2) (sl + 12)
  refine z_store X (lv' := [(5, .int (Int32.ofInt e10)), (0, .ref q1), (1, .ref (A 0)), (2, .ref (A 179)), (3, .ref (A 517)), (4, .int (Int32.ofInt i))]) (show cdA 350 609 = some (.istore 5, 2, 0, 0, 0) from rfl) (by decide) (fun _ h => h) ?_
  refine z_aload_n X (x := A 179) (show cdA 350 611 = some (.aload_n 2, 1, 0, 0, 0) from rfl) (List.Mem.tail _ (List.Mem.tail _ (List.Mem.tail _ (List.Mem.head _)))) ?_
  refine z_aload_n X (x := q1) (show cdA 350 612 = some (.aload_n 0, 1, 0, 0, 0) from rfl) (List.Mem.tail _ (List.Mem.head _)) ?_
  refine z_load X (x := i) (show cdA 350 613 = some (.iload 4, 2, 0, 0, 0) from rfl) (List.Mem.tail _ (List.Mem.tail _ (List.Mem.tail _ (List.Mem.tail _ (List.Mem.tail _ (List.Mem.head _)))))) ?_
  refine z_const X (show cdA 350 615 = some (.iconst 1, 1, 0, 0, 0) from rfl) ?_
  refine z_add X (show cdA 350 616 = some (.iadd, 1, 0, 0, 0) from rfl) ?_
  refine z_sld X S hL (show cdA 350 617 = some (.iaload, 1, 0, 0, 0) from rfl) (show 0 ≤ (i + 1) ∧ (i + 1) < (L : Int) by omega) ?_
  have sr11 : rng (sc xs (i + 1)) := sc_rng
  refine z_aload_n X (x := q1) (show cdA 350 618 = some (.aload_n 0, 1, 0, 0, 0) from rfl) (List.Mem.tail _ (List.Mem.head _)) ?_
  refine z_load X (x := i) (show cdA 350 619 = some (.iload 4, 2, 0, 0, 0) from rfl) (List.Mem.tail _ (List.Mem.tail _ (List.Mem.tail _ (List.Mem.tail _ (List.Mem.tail _ (List.Mem.head _)))))) ?_
  refine z_const X (show cdA 350 621 = some (.iconst 2, 1, 0, 0, 0) from rfl) ?_
  refine z_add X (show cdA 350 622 = some (.iadd, 1, 0, 0, 0) from rfl) ?_
  refine z_sld X S hL (show cdA 350 623 = some (.iaload, 1, 0, 0, 0) from rfl) (show 0 ≤ (i + 2) ∧ (i + 2) < (L : Int) by omega) ?_
  have sr12 : rng (sc xs (i + 2)) := sc_rng
  refine z_callV X 179 (rm := rmN 234) (As := [.int (Int32.ofInt (sc xs (i + 1))), .int (Int32.ofInt (sc xs (i + 2)))]) (st := []) (show cdA 350 624 = some (.invokevirtual 175, 3, 234, 0, 0) from rfl) rfl (by decide) rfl (by rw [E.1, E.2.1, E.2.2.1]; exact k_assign G Is9 (by first | exact ⟨sr11.1, sr11.2⟩ | omega) (by first | exact ⟨sr12.1, sr12.2⟩ | omega)) ⟨by rw [E.2.2.2]; exact (show 7 + 1 ≤ 2048 by omega), by rw [E.2.2.2]; exact (show 8 + (4 + 11) + 122 ≤ 84000 by omega), by rw [E.2.2.2]; exact (show (ce + 2) + 0 ≤ 601024 by omega), by rw [E.2.2.2]; exact (show (sl + 12) + 0 ≤ 7293034 by omega)⟩ (Nat.le_of_ble_eq_true rfl) (fun vv s13 hq => ?_) (fun ee s13 hq => ?_)
  rotate_left
  · obtain ⟨Is13, Fs13, e14, hv, hrs13, hps13⟩ := hq; cases hv
  obtain ⟨Is13, Fs13, e14, hv, hrs13, hps13⟩ := hq
  cases hv
  have Gs13 := fm_ts Gs9 Fs13 (by decide) (by decide)
  have JRLx_s13 : RLx s13 := RLx_fm Fs13 (by decide) JRLx_s9
  have JFEQ_s13 : FEQ s13 := FEQ_fm Fs13 (by decide) JFEQ_s9
  have ws13_0 : iI s13 0 = iI s9 0 := fm_i Fs13 (by decide)
  have ws13_74 : iI s13 74 = iI s9 74 := fm_i Fs13 (by decide)
  have ws13_9 : iI s13 9 = iI s9 9 := fm_i Fs13 (by decide)
  have ws13_90 : iI s13 90 = iI s9 90 := fm_i Fs13 (by decide)
  have ws13_12 : iI s13 12 = iI s9 12 := fm_i Fs13 (by decide)
  have ws13_89 : iI s13 89 = iI s9 89 := fm_i Fs13 (by decide)
  have wos13 : iO s13 = iO s9 := fm_o Fs13 (by decide)
  show WS k 627 [(5, .int (Int32.ofInt e10)), (0, .ref q1), (1, .ref (A 0)), (2, .ref (A 179)), (3, .ref (A 517)), (4, .int (Int32.ofInt i))] [.int (Int32.ofInt e14)] (Wd A dT s13) (ce + 2) (sl + 12)
  refine z_store X (lv' := [(6, .int (Int32.ofInt e14)), (5, .int (Int32.ofInt e10)), (0, .ref q1), (1, .ref (A 0)), (2, .ref (A 179)), (3, .ref (A 517)), (4, .int (Int32.ofInt i))]) (show cdA 350 627 = some (.istore 6, 2, 0, 0, 0) from rfl) (by decide) (fun _ h => h) ?_
  refine z_goto X (t := 1894) (show cdA 350 629 = some (.goto 1265, 3, 0, 0, 0) from rfl) (by decide) ?_
  refine w_widen (ce' := ce + 29) (sl' := sl + 222) (by omega) (by omega) ?_
  exact WS_lv (lv := [(0, .ref q1), (1, .ref (A 0)), (2, .ref (A 179)), (3, .ref (A 517)), (4, .int (Int32.ofInt i))]) (List.forall_mem_cons.mpr ⟨(List.Mem.tail _ (List.Mem.tail _ (List.Mem.head _))), (List.forall_mem_cons.mpr ⟨(List.Mem.tail _ (List.Mem.tail _ (List.Mem.tail _ (List.Mem.head _)))), (List.forall_mem_cons.mpr ⟨(List.Mem.tail _ (List.Mem.tail _ (List.Mem.tail _ (List.Mem.tail _ (List.Mem.head _))))), (List.forall_mem_cons.mpr ⟨(List.Mem.tail _ (List.Mem.tail _ (List.Mem.tail _ (List.Mem.tail _ (List.Mem.tail _ (List.Mem.head _)))))), (List.forall_mem_cons.mpr ⟨(List.Mem.tail _ (List.Mem.tail _ (List.Mem.tail _ (List.Mem.tail _ (List.Mem.tail _ (List.Mem.tail _ (List.Mem.head _))))))), (fun q h => absurd h List.not_mem_nil)⟩)⟩)⟩)⟩)⟩) (hk A _ Is13 JRLx_s13 JFEQ_s13 (by omega) (by omega) (by omega) (by omega))
theorem lc_9 (G : GX l s0 D tys a0 dT) (GR : RS0 s0) (SF : SF0 s0) (GT : TXs0 s0) (GW : TXw0 s0) {k : kx_T} (X : AX k 350 dT) (E : kL k = l ∧ kS0 k = s0 ∧ kD k = D ∧ kR k = room_1) {q1 L : Nat} {xs : Nat → Int32} (S : SX k q1 L xs) (hL : L ≤ 3072) (I : Bd s) (jR : RLx s) (jFEQ : FEQ s) (p1 : iI s 89 = 1) (p2 : iI s 12 ≤ 8) (p3 : iI s 0 = iI s 74) (p4 : iI s 9 = iI s 90) {i : Int} (hi : 0 ≤ i ∧ i + 6 ≤ (L : Int)) {ce sl : Nat} (hce : ce + 29 ≤ 601024) (hsl : sl + 222 ≤ 7293034) (hk : ∀ (A : Nat → Nat) (t : PS), Bd t → RLx t → FEQ t → iI t 89 = 1 → iI t 12 ≤ 8 → iI t 0 = iI t 74 → iI t 9 = iI t 90 → WS k 1894 [(0, .ref q1), (1, .ref (A 0)), (2, .ref (A 179)), (3, .ref (A 517)), (4, .int (Int32.ofInt i))] [] (Wd A dT t) (ce + 29) (sl + 222)) : WS k 632 [(0, .ref q1), (1, .ref (A 0)), (2, .ref (A 179)), (3, .ref (A 517)), (4, .int (Int32.ofInt i))] [] (Wd A dT s) ce sl := by
  have F : Fm [73] [21, 1022, 1023, 1460, 228] s s := fm_rf _ _ s
  have b1 : (0 : Int) ≤ iI s 0 ∧ iI s 0 ≤ 200 := I.1 0
  have b2 : (0 : Int) ≤ iI s 74 ∧ iI s 74 ≤ 200 := I.1 74
  have b3 : (0 : Int) ≤ iI s 9 ∧ iI s 9 ≤ 12 := I.1 9
  have b4 : (0 : Int) ≤ iI s 90 ∧ iI s 90 ≤ 12 := I.1 90
  have b5 : (0 : Int) ≤ iI s 12 ∧ iI s 12 ≤ 9 := I.1 12
  have b6 : (1 : Int) ≤ iI s 89 ∧ iI s 89 ≤ 8 := I.1 89
  refine z_aload_n X (x := A 0) (show cdA 350 632 = some (.aload_n 1, 1, 0, 0, 0) from rfl) (List.Mem.tail _ (List.Mem.head _)) ?_
  refine z_aload_n X (x := q1) (show cdA 350 633 = some (.aload_n 0, 1, 0, 0, 0) from rfl) (List.Mem.head _) ?_
  refine z_load X (x := i) (show cdA 350 634 = some (.iload 4, 2, 0, 0, 0) from rfl) (List.Mem.tail _ (List.Mem.tail _ (List.Mem.tail _ (List.Mem.tail _ (List.Mem.head _))))) ?_
  refine z_const X (show cdA 350 636 = some (.iconst 1, 1, 0, 0, 0) from rfl) ?_
  refine z_add X (show cdA 350 637 = some (.iadd, 1, 0, 0, 0) from rfl) ?_
  refine z_sld X S hL (show cdA 350 638 = some (.iaload, 1, 0, 0, 0) from rfl) (show 0 ≤ (i + 1) ∧ (i + 1) < (L : Int) by omega) ?_
  have sr7 : rng (sc xs (i + 1)) := sc_rng
  refine z_aload_n X (x := q1) (show cdA 350 639 = some (.aload_n 0, 1, 0, 0, 0) from rfl) (List.Mem.head _) ?_
  refine z_load X (x := i) (show cdA 350 640 = some (.iload 4, 2, 0, 0, 0) from rfl) (List.Mem.tail _ (List.Mem.tail _ (List.Mem.tail _ (List.Mem.tail _ (List.Mem.head _))))) ?_
  refine z_const X (show cdA 350 642 = some (.iconst 2, 1, 0, 0, 0) from rfl) ?_
  refine z_add X (show cdA 350 643 = some (.iadd, 1, 0, 0, 0) from rfl) ?_
  refine z_sld X S hL (show cdA 350 644 = some (.iaload, 1, 0, 0, 0) from rfl) (show 0 ≤ (i + 2) ∧ (i + 2) < (L : Int) by omega) ?_
  have sr8 : rng (sc xs (i + 2)) := sc_rng
  refine z_aload_n X (x := q1) (show cdA 350 645 = some (.aload_n 0, 1, 0, 0, 0) from rfl) (List.Mem.head _) ?_
  refine z_load X (x := i) (show cdA 350 646 = some (.iload 4, 2, 0, 0, 0) from rfl) (List.Mem.tail _ (List.Mem.tail _ (List.Mem.tail _ (List.Mem.tail _ (List.Mem.head _))))) ?_
  refine z_const X (show cdA 350 648 = some (.iconst 3, 1, 0, 0, 0) from rfl) ?_
  refine z_add X (show cdA 350 649 = some (.iadd, 1, 0, 0, 0) from rfl) ?_
  refine z_sld X S hL (show cdA 350 650 = some (.iaload, 1, 0, 0, 0) from rfl) (show 0 ≤ (i + 3) ∧ (i + 3) < (L : Int) by omega) ?_
  have sr9 : rng (sc xs (i + 3)) := sc_rng
  refine z_aload_n X (x := A 517) (show cdA 350 651 = some (.aload_n 3, 1, 0, 0, 0) from rfl) (List.Mem.tail _ (List.Mem.tail _ (List.Mem.tail _ (List.Mem.head _)))) ?_
  refine z_callL X (rm := rmN 321) (As := [.ref (A 0), .int (Int32.ofInt (sc xs (i + 1))), .int (Int32.ofInt (sc xs (i + 2))), .int (Int32.ofInt (sc xs (i + 3))), .ref (A 517)]) (st := []) (show cdA 350 652 = some (.invokestatic 176, 3, 321, 6, 0) from rfl) (by decide) rfl (by rw [E.1, E.2.1, E.2.2.1]; exact lw_paint G I (by omega) (by omega) (by omega)) ⟨by rw [E.2.2.2]; exact (show 9 + 1 ≤ 2048 by omega), by rw [E.2.2.2]; exact (show 8 + (6 + 11) + 175 ≤ 84000 by omega), by rw [E.2.2.2]; exact (show ce + 4 ≤ 601024 by omega), by rw [E.2.2.2]; exact (show sl + 24 ≤ 7293034 by omega)⟩ (Nat.le_of_ble_eq_true rfl) (fun vv A s10 hA2 hq => ?_) (fun ee A s10 hA2 hq => ?_)
  rotate_left
  · obtain ⟨Is10, Fs10, e11, hv, hrs10, hps10⟩ := hq; cases hv
  obtain ⟨Is10, Fs10, e11, hv, hrs10, hps10⟩ := hq
  cases hv
  rw [← hA2 0 (by decide)]
  rw [← hA2 179 (by decide)]
  rw [← hA2 517 (by decide)]
  have Gs10 := fm_ts F Fs10 (by decide) (by decide)
  have JRLx_s10 : RLx s10 := RLx_fm Fs10 (by decide) jR
  have JFEQ_s10 : FEQ s10 := FEQ_fm Fs10 (by decide) jFEQ
  have ws10_0 : iI s10 0 = iI s 0 := fm_i Fs10 (by decide)
  have ws10_74 : iI s10 74 = iI s 74 := fm_i Fs10 (by decide)
  have ws10_9 : iI s10 9 = iI s 9 := fm_i Fs10 (by decide)
  have ws10_90 : iI s10 90 = iI s 90 := fm_i Fs10 (by decide)
  have ws10_12 : iI s10 12 = iI s 12 := fm_i Fs10 (by decide)
  have ws10_89 : iI s10 89 = iI s 89 := fm_i Fs10 (by decide)
  show WS k 655 [(0, .ref q1), (1, .ref (A 0)), (2, .ref (A 179)), (3, .ref (A 517)), (4, .int (Int32.ofInt i))] [.int (Int32.ofInt e11)] (Wd A dT s10) (ce + 4) (sl + 24)
  refine z_store X (lv' := [(5, .int (Int32.ofInt e11)), (0, .ref q1), (1, .ref (A 0)), (2, .ref (A 179)), (3, .ref (A 517)), (4, .int (Int32.ofInt i))]) (show cdA 350 655 = some (.istore 5, 2, 0, 0, 0) from rfl) (by decide) (fun _ h => h) ?_
  refine z_aload_n X (x := A 179) (show cdA 350 657 = some (.aload_n 2, 1, 0, 0, 0) from rfl) (List.Mem.tail _ (List.Mem.tail _ (List.Mem.tail _ (List.Mem.head _)))) ?_
  refine z_aload_n X (x := q1) (show cdA 350 658 = some (.aload_n 0, 1, 0, 0, 0) from rfl) (List.Mem.tail _ (List.Mem.head _)) ?_
  refine z_load X (x := i) (show cdA 350 659 = some (.iload 4, 2, 0, 0, 0) from rfl) (List.Mem.tail _ (List.Mem.tail _ (List.Mem.tail _ (List.Mem.tail _ (List.Mem.tail _ (List.Mem.head _)))))) ?_
  refine z_const X (show cdA 350 661 = some (.iconst 1, 1, 0, 0, 0) from rfl) ?_
  refine z_add X (show cdA 350 662 = some (.iadd, 1, 0, 0, 0) from rfl) ?_
  refine z_sld X S hL (show cdA 350 663 = some (.iaload, 1, 0, 0, 0) from rfl) (show 0 ≤ (i + 1) ∧ (i + 1) < (L : Int) by omega) ?_
  have sr12 : rng (sc xs (i + 1)) := sc_rng
  refine z_aload_n X (x := q1) (show cdA 350 664 = some (.aload_n 0, 1, 0, 0, 0) from rfl) (List.Mem.tail _ (List.Mem.head _)) ?_
  refine z_load X (x := i) (show cdA 350 665 = some (.iload 4, 2, 0, 0, 0) from rfl) (List.Mem.tail _ (List.Mem.tail _ (List.Mem.tail _ (List.Mem.tail _ (List.Mem.tail _ (List.Mem.head _)))))) ?_
  refine z_const X (show cdA 350 667 = some (.iconst 2, 1, 0, 0, 0) from rfl) ?_
  refine z_add X (show cdA 350 668 = some (.iadd, 1, 0, 0, 0) from rfl) ?_
  refine z_sld X S hL (show cdA 350 669 = some (.iaload, 1, 0, 0, 0) from rfl) (show 0 ≤ (i + 2) ∧ (i + 2) < (L : Int) by omega) ?_
  have sr13 : rng (sc xs (i + 2)) := sc_rng
  refine z_aload_n X (x := q1) (show cdA 350 670 = some (.aload_n 0, 1, 0, 0, 0) from rfl) (List.Mem.tail _ (List.Mem.head _)) ?_
  refine z_load X (x := i) (show cdA 350 671 = some (.iload 4, 2, 0, 0, 0) from rfl) (List.Mem.tail _ (List.Mem.tail _ (List.Mem.tail _ (List.Mem.tail _ (List.Mem.tail _ (List.Mem.head _)))))) ?_
  refine z_const X (show cdA 350 673 = some (.iconst 3, 1, 0, 0, 0) from rfl) ?_
  refine z_add X (show cdA 350 674 = some (.iadd, 1, 0, 0, 0) from rfl) ?_
  refine z_sld X S hL (show cdA 350 675 = some (.iaload, 1, 0, 0, 0) from rfl) (show 0 ≤ (i + 3) ∧ (i + 3) < (L : Int) by omega) ?_
  have sr14 : rng (sc xs (i + 3)) := sc_rng
  refine z_callV X 179 (rm := rmN 235) (As := [.int (Int32.ofInt (sc xs (i + 1))), .int (Int32.ofInt (sc xs (i + 2))), .int (Int32.ofInt (sc xs (i + 3)))]) (st := []) (show cdA 350 676 = some (.invokevirtual 179, 3, 235, 0, 0) from rfl) rfl (by decide) rfl (by rw [E.1, E.2.1, E.2.2.1]; exact k_paint G Is10 (by first | exact ⟨sr12.1, sr12.2⟩ | omega) (by first | exact ⟨sr13.1, sr13.2⟩ | omega) (by first | exact ⟨sr14.1, sr14.2⟩ | omega)) ⟨by rw [E.2.2.2]; exact (show 7 + 1 ≤ 2048 by omega), by rw [E.2.2.2]; exact (show 8 + (6 + 11) + 122 ≤ 84000 by omega), by rw [E.2.2.2]; exact (show (ce + 4) + 0 ≤ 601024 by omega), by rw [E.2.2.2]; exact (show (sl + 24) + 0 ≤ 7293034 by omega)⟩ (Nat.le_of_ble_eq_true rfl) (fun vv s15 hq => ?_) (fun ee s15 hq => ?_)
  rotate_left
  · obtain ⟨Is15, Fs15, e16, hv, hrs15, hps15⟩ := hq; cases hv
  obtain ⟨Is15, Fs15, e16, hv, hrs15, hps15⟩ := hq
  cases hv
  have Gs15 := fm_ts Gs10 Fs15 (by decide) (by decide)
  have JRLx_s15 : RLx s15 := RLx_fm Fs15 (by decide) JRLx_s10
  have JFEQ_s15 : FEQ s15 := FEQ_fm Fs15 (by decide) JFEQ_s10
  have ws15_0 : iI s15 0 = iI s10 0 := fm_i Fs15 (by decide)
  have ws15_74 : iI s15 74 = iI s10 74 := fm_i Fs15 (by decide)
  have ws15_9 : iI s15 9 = iI s10 9 := fm_i Fs15 (by decide)
  have ws15_90 : iI s15 90 = iI s10 90 := fm_i Fs15 (by decide)
  have ws15_12 : iI s15 12 = iI s10 12 := fm_i Fs15 (by decide)
  have ws15_89 : iI s15 89 = iI s10 89 := fm_i Fs15 (by decide)
  have wos15 : iO s15 = iO s10 := fm_o Fs15 (by decide)
  show WS k 679 [(5, .int (Int32.ofInt e11)), (0, .ref q1), (1, .ref (A 0)), (2, .ref (A 179)), (3, .ref (A 517)), (4, .int (Int32.ofInt i))] [.int (Int32.ofInt e16)] (Wd A dT s15) (ce + 4) (sl + 24)
  refine z_store X (lv' := [(6, .int (Int32.ofInt e16)), (5, .int (Int32.ofInt e11)), (0, .ref q1), (1, .ref (A 0)), (2, .ref (A 179)), (3, .ref (A 517)), (4, .int (Int32.ofInt i))]) (show cdA 350 679 = some (.istore 6, 2, 0, 0, 0) from rfl) (by decide) (fun _ h => h) ?_
  refine z_goto X (t := 1894) (show cdA 350 681 = some (.goto 1213, 3, 0, 0, 0) from rfl) (by decide) ?_
  refine w_widen (ce' := ce + 29) (sl' := sl + 222) (by omega) (by omega) ?_
  exact WS_lv (lv := [(0, .ref q1), (1, .ref (A 0)), (2, .ref (A 179)), (3, .ref (A 517)), (4, .int (Int32.ofInt i))]) (List.forall_mem_cons.mpr ⟨(List.Mem.tail _ (List.Mem.tail _ (List.Mem.head _))), (List.forall_mem_cons.mpr ⟨(List.Mem.tail _ (List.Mem.tail _ (List.Mem.tail _ (List.Mem.head _)))), (List.forall_mem_cons.mpr ⟨(List.Mem.tail _ (List.Mem.tail _ (List.Mem.tail _ (List.Mem.tail _ (List.Mem.head _))))), (List.forall_mem_cons.mpr ⟨(List.Mem.tail _ (List.Mem.tail _ (List.Mem.tail _ (List.Mem.tail _ (List.Mem.tail _ (List.Mem.head _)))))), (List.forall_mem_cons.mpr ⟨(List.Mem.tail _ (List.Mem.tail _ (List.Mem.tail _ (List.Mem.tail _ (List.Mem.tail _ (List.Mem.tail _ (List.Mem.head _))))))), (fun q h => absurd h List.not_mem_nil)⟩)⟩)⟩)⟩)⟩) (hk A _ Is15 JRLx_s15 JFEQ_s15 (by omega) (by omega) (by omega) (by omega))
theorem lc_10 (G : GX l s0 D tys a0 dT) (GR : RS0 s0) (SF : SF0 s0) (GT : TXs0 s0) (GW : TXw0 s0) {k : kx_T} (X : AX k 350 dT) (E : kL k = l ∧ kS0 k = s0 ∧ kD k = D ∧ kR k = room_1) {q1 L : Nat} {xs : Nat → Int32} (S : SX k q1 L xs) (hL : L ≤ 3072) (I : Bd s) (jR : RLx s) (jFEQ : FEQ s) (p1 : iI s 89 = 1) (p2 : iI s 12 ≤ 8) (p3 : iI s 0 = iI s 74) (p4 : iI s 9 = iI s 90) {i : Int} (hi : 0 ≤ i ∧ i + 6 ≤ (L : Int)) {ce sl : Nat} (hce : ce + 29 ≤ 601024) (hsl : sl + 222 ≤ 7293034) (hk : ∀ (A : Nat → Nat) (t : PS), Bd t → RLx t → FEQ t → iI t 89 = 1 → iI t 12 ≤ 8 → iI t 0 = iI t 74 → iI t 9 = iI t 90 → WS k 1894 [(0, .ref q1), (1, .ref (A 0)), (2, .ref (A 179)), (3, .ref (A 517)), (4, .int (Int32.ofInt i))] [] (Wd A dT t) (ce + 29) (sl + 222)) : WS k 684 [(0, .ref q1), (1, .ref (A 0)), (2, .ref (A 179)), (3, .ref (A 517)), (4, .int (Int32.ofInt i))] [] (Wd A dT s) ce sl := by
  have F : Fm [73] [24, 1460, 229] s s := fm_rf _ _ s
  have b1 : (0 : Int) ≤ iI s 0 ∧ iI s 0 ≤ 200 := I.1 0
  have b2 : (0 : Int) ≤ iI s 74 ∧ iI s 74 ≤ 200 := I.1 74
  have b3 : (0 : Int) ≤ iI s 9 ∧ iI s 9 ≤ 12 := I.1 9
  have b4 : (0 : Int) ≤ iI s 90 ∧ iI s 90 ≤ 12 := I.1 90
  have b5 : (0 : Int) ≤ iI s 12 ∧ iI s 12 ≤ 9 := I.1 12
  have b6 : (1 : Int) ≤ iI s 89 ∧ iI s 89 ≤ 8 := I.1 89
  refine z_aload_n X (x := A 0) (show cdA 350 684 = some (.aload_n 1, 1, 0, 0, 0) from rfl) (List.Mem.tail _ (List.Mem.head _)) ?_
  refine z_aload_n X (x := q1) (show cdA 350 685 = some (.aload_n 0, 1, 0, 0, 0) from rfl) (List.Mem.head _) ?_
  refine z_load X (x := i) (show cdA 350 686 = some (.iload 4, 2, 0, 0, 0) from rfl) (List.Mem.tail _ (List.Mem.tail _ (List.Mem.tail _ (List.Mem.tail _ (List.Mem.head _))))) ?_
  refine z_const X (show cdA 350 688 = some (.iconst 1, 1, 0, 0, 0) from rfl) ?_
  refine z_add X (show cdA 350 689 = some (.iadd, 1, 0, 0, 0) from rfl) ?_
  refine z_sld X S hL (show cdA 350 690 = some (.iaload, 1, 0, 0, 0) from rfl) (show 0 ≤ (i + 1) ∧ (i + 1) < (L : Int) by omega) ?_
  have sr7 : rng (sc xs (i + 1)) := sc_rng
  refine z_aload_n X (x := q1) (show cdA 350 691 = some (.aload_n 0, 1, 0, 0, 0) from rfl) (List.Mem.head _) ?_
  refine z_load X (x := i) (show cdA 350 692 = some (.iload 4, 2, 0, 0, 0) from rfl) (List.Mem.tail _ (List.Mem.tail _ (List.Mem.tail _ (List.Mem.tail _ (List.Mem.head _))))) ?_
  refine z_const X (show cdA 350 694 = some (.iconst 2, 1, 0, 0, 0) from rfl) ?_
  refine z_add X (show cdA 350 695 = some (.iadd, 1, 0, 0, 0) from rfl) ?_
  refine z_sld X S hL (show cdA 350 696 = some (.iaload, 1, 0, 0, 0) from rfl) (show 0 ≤ (i + 2) ∧ (i + 2) < (L : Int) by omega) ?_
  have sr8 : rng (sc xs (i + 2)) := sc_rng
  refine z_aload_n X (x := A 517) (show cdA 350 697 = some (.aload_n 3, 1, 0, 0, 0) from rfl) (List.Mem.tail _ (List.Mem.tail _ (List.Mem.tail _ (List.Mem.head _)))) ?_
  refine z_callL X (rm := rmN 322) (As := [.ref (A 0), .int (Int32.ofInt (sc xs (i + 1))), .int (Int32.ofInt (sc xs (i + 2))), .ref (A 517)]) (st := []) (show cdA 350 698 = some (.invokestatic 180, 3, 322, 6, 0) from rfl) (by decide) rfl (by rw [E.1, E.2.1, E.2.2.1]; exact lw_limit G I (by omega) (by omega)) ⟨by rw [E.2.2.2]; exact (show 9 + 1 ≤ 2048 by omega), by rw [E.2.2.2]; exact (show 8 + (5 + 11) + 167 ≤ 84000 by omega), by rw [E.2.2.2]; exact (show ce + 2 ≤ 601024 by omega), by rw [E.2.2.2]; exact (show sl + 12 ≤ 7293034 by omega)⟩ (Nat.le_of_ble_eq_true rfl) (fun vv A s9 hA2 hq => ?_) (fun ee A s9 hA2 hq => ?_)
  rotate_left
  · obtain ⟨Is9, Fs9, e10, hv, hrs9, hps9⟩ := hq; cases hv
  obtain ⟨Is9, Fs9, e10, hv, hrs9, hps9⟩ := hq
  cases hv
  rw [← hA2 0 (by decide)]
  rw [← hA2 179 (by decide)]
  rw [← hA2 517 (by decide)]
  have Gs9 := fm_ts F Fs9 (by decide) (by decide)
  have JRLx_s9 : RLx s9 := RLx_fm Fs9 (by decide) jR
  have JFEQ_s9 : FEQ s9 := FEQ_fm Fs9 (by decide) jFEQ
  have ws9_0 : iI s9 0 = iI s 0 := fm_i Fs9 (by decide)
  have ws9_74 : iI s9 74 = iI s 74 := fm_i Fs9 (by decide)
  have ws9_9 : iI s9 9 = iI s 9 := fm_i Fs9 (by decide)
  have ws9_90 : iI s9 90 = iI s 90 := fm_i Fs9 (by decide)
  have ws9_12 : iI s9 12 = iI s 12 := fm_i Fs9 (by decide)
  have ws9_89 : iI s9 89 = iI s 89 := fm_i Fs9 (by decide)
  show WS k 701 [(0, .ref q1), (1, .ref (A 0)), (2, .ref (A 179)), (3, .ref (A 517)), (4, .int (Int32.ofInt i))] [.int (Int32.ofInt e10)] (Wd A dT s9) (ce + 2) (sl + 12)
  refine z_store X (lv' := [(5, .int (Int32.ofInt e10)), (0, .ref q1), (1, .ref (A 0)), (2, .ref (A 179)), (3, .ref (A 517)), (4, .int (Int32.ofInt i))]) (show cdA 350 701 = some (.istore 5, 2, 0, 0, 0) from rfl) (by decide) (fun _ h => h) ?_
  refine z_aload_n X (x := A 179) (show cdA 350 703 = some (.aload_n 2, 1, 0, 0, 0) from rfl) (List.Mem.tail _ (List.Mem.tail _ (List.Mem.tail _ (List.Mem.head _)))) ?_
  refine z_aload_n X (x := q1) (show cdA 350 704 = some (.aload_n 0, 1, 0, 0, 0) from rfl) (List.Mem.tail _ (List.Mem.head _)) ?_
  refine z_load X (x := i) (show cdA 350 705 = some (.iload 4, 2, 0, 0, 0) from rfl) (List.Mem.tail _ (List.Mem.tail _ (List.Mem.tail _ (List.Mem.tail _ (List.Mem.tail _ (List.Mem.head _)))))) ?_
  refine z_const X (show cdA 350 707 = some (.iconst 1, 1, 0, 0, 0) from rfl) ?_
  refine z_add X (show cdA 350 708 = some (.iadd, 1, 0, 0, 0) from rfl) ?_
  refine z_sld X S hL (show cdA 350 709 = some (.iaload, 1, 0, 0, 0) from rfl) (show 0 ≤ (i + 1) ∧ (i + 1) < (L : Int) by omega) ?_
  have sr11 : rng (sc xs (i + 1)) := sc_rng
  refine z_aload_n X (x := q1) (show cdA 350 710 = some (.aload_n 0, 1, 0, 0, 0) from rfl) (List.Mem.tail _ (List.Mem.head _)) ?_
  refine z_load X (x := i) (show cdA 350 711 = some (.iload 4, 2, 0, 0, 0) from rfl) (List.Mem.tail _ (List.Mem.tail _ (List.Mem.tail _ (List.Mem.tail _ (List.Mem.tail _ (List.Mem.head _)))))) ?_
  refine z_const X (show cdA 350 713 = some (.iconst 2, 1, 0, 0, 0) from rfl) ?_
  refine z_add X (show cdA 350 714 = some (.iadd, 1, 0, 0, 0) from rfl) ?_
  refine z_sld X S hL (show cdA 350 715 = some (.iaload, 1, 0, 0, 0) from rfl) (show 0 ≤ (i + 2) ∧ (i + 2) < (L : Int) by omega) ?_
  have sr12 : rng (sc xs (i + 2)) := sc_rng
  refine z_callV X 179 (rm := rmN 236) (As := [.int (Int32.ofInt (sc xs (i + 1))), .int (Int32.ofInt (sc xs (i + 2)))]) (st := []) (show cdA 350 716 = some (.invokevirtual 182, 3, 236, 0, 0) from rfl) rfl (by decide) rfl (by rw [E.1, E.2.1, E.2.2.1]; exact k_limit G Is9 (by first | exact ⟨sr11.1, sr11.2⟩ | omega) (by first | exact ⟨sr12.1, sr12.2⟩ | omega)) ⟨by rw [E.2.2.2]; exact (show 7 + 1 ≤ 2048 by omega), by rw [E.2.2.2]; exact (show 8 + (4 + 11) + 122 ≤ 84000 by omega), by rw [E.2.2.2]; exact (show (ce + 2) + 0 ≤ 601024 by omega), by rw [E.2.2.2]; exact (show (sl + 12) + 0 ≤ 7293034 by omega)⟩ (Nat.le_of_ble_eq_true rfl) (fun vv s13 hq => ?_) (fun ee s13 hq => ?_)
  rotate_left
  · obtain ⟨Is13, Fs13, e14, hv, hrs13, hps13⟩ := hq; cases hv
  obtain ⟨Is13, Fs13, e14, hv, hrs13, hps13⟩ := hq
  cases hv
  have Gs13 := fm_ts Gs9 Fs13 (by decide) (by decide)
  have JRLx_s13 : RLx s13 := RLx_fm Fs13 (by decide) JRLx_s9
  have JFEQ_s13 : FEQ s13 := FEQ_fm Fs13 (by decide) JFEQ_s9
  have ws13_0 : iI s13 0 = iI s9 0 := fm_i Fs13 (by decide)
  have ws13_74 : iI s13 74 = iI s9 74 := fm_i Fs13 (by decide)
  have ws13_9 : iI s13 9 = iI s9 9 := fm_i Fs13 (by decide)
  have ws13_90 : iI s13 90 = iI s9 90 := fm_i Fs13 (by decide)
  have ws13_12 : iI s13 12 = iI s9 12 := fm_i Fs13 (by decide)
  have ws13_89 : iI s13 89 = iI s9 89 := fm_i Fs13 (by decide)
  have wos13 : iO s13 = iO s9 := fm_o Fs13 (by decide)
  show WS k 719 [(5, .int (Int32.ofInt e10)), (0, .ref q1), (1, .ref (A 0)), (2, .ref (A 179)), (3, .ref (A 517)), (4, .int (Int32.ofInt i))] [.int (Int32.ofInt e14)] (Wd A dT s13) (ce + 2) (sl + 12)
  refine z_store X (lv' := [(6, .int (Int32.ofInt e14)), (5, .int (Int32.ofInt e10)), (0, .ref q1), (1, .ref (A 0)), (2, .ref (A 179)), (3, .ref (A 517)), (4, .int (Int32.ofInt i))]) (show cdA 350 719 = some (.istore 6, 2, 0, 0, 0) from rfl) (by decide) (fun _ h => h) ?_
  refine z_goto X (t := 1894) (show cdA 350 721 = some (.goto 1173, 3, 0, 0, 0) from rfl) (by decide) ?_
  refine w_widen (ce' := ce + 29) (sl' := sl + 222) (by omega) (by omega) ?_
  exact WS_lv (lv := [(0, .ref q1), (1, .ref (A 0)), (2, .ref (A 179)), (3, .ref (A 517)), (4, .int (Int32.ofInt i))]) (List.forall_mem_cons.mpr ⟨(List.Mem.tail _ (List.Mem.tail _ (List.Mem.head _))), (List.forall_mem_cons.mpr ⟨(List.Mem.tail _ (List.Mem.tail _ (List.Mem.tail _ (List.Mem.head _)))), (List.forall_mem_cons.mpr ⟨(List.Mem.tail _ (List.Mem.tail _ (List.Mem.tail _ (List.Mem.tail _ (List.Mem.head _))))), (List.forall_mem_cons.mpr ⟨(List.Mem.tail _ (List.Mem.tail _ (List.Mem.tail _ (List.Mem.tail _ (List.Mem.tail _ (List.Mem.head _)))))), (List.forall_mem_cons.mpr ⟨(List.Mem.tail _ (List.Mem.tail _ (List.Mem.tail _ (List.Mem.tail _ (List.Mem.tail _ (List.Mem.tail _ (List.Mem.head _))))))), (fun q h => absurd h List.not_mem_nil)⟩)⟩)⟩)⟩)⟩) (hk A _ Is13 JRLx_s13 JFEQ_s13 (by omega) (by omega) (by omega) (by omega))
theorem lc_11 (G : GX l s0 D tys a0 dT) (GR : RS0 s0) (SF : SF0 s0) (GT : TXs0 s0) (GW : TXw0 s0) {k : kx_T} (X : AX k 350 dT) (E : kL k = l ∧ kS0 k = s0 ∧ kD k = D ∧ kR k = room_1) {q1 L : Nat} {xs : Nat → Int32} (S : SX k q1 L xs) (hL : L ≤ 3072) (I : Bd s) (jR : RLx s) (jFEQ : FEQ s) (p1 : iI s 89 = 1) (p2 : iI s 12 ≤ 8) (p3 : iI s 0 = iI s 74) (p4 : iI s 9 = iI s 90) {i : Int} (hi : 0 ≤ i ∧ i + 6 ≤ (L : Int)) {ce sl : Nat} (hce : ce + 29 ≤ 601024) (hsl : sl + 222 ≤ 7293034) (hk : ∀ (A : Nat → Nat) (t : PS), Bd t → RLx t → FEQ t → iI t 89 = 1 → iI t 12 ≤ 8 → iI t 0 = iI t 74 → iI t 9 = iI t 90 → WS k 1894 [(0, .ref q1), (1, .ref (A 0)), (2, .ref (A 179)), (3, .ref (A 517)), (4, .int (Int32.ofInt i))] [] (Wd A dT t) (ce + 29) (sl + 222)) : WS k 724 [(0, .ref q1), (1, .ref (A 0)), (2, .ref (A 179)), (3, .ref (A 517)), (4, .int (Int32.ofInt i))] [] (Wd A dT s) ce sl := by
  have F : Fm [22, 23, 73, 77, 75, 78, 79, 80, 81] [33, 26, 27, 28, 29, 30, 31, 32, 20, 1460, 202, 204, 205, 206, 207, 208, 209, 210, 211, 212, 213, 214, 215, 216, 217, 218, 219, 220, 221, 222, 223, 224, 225, 226, 227, 203, 161, 230] s s := fm_rf _ _ s
  have b1 : (0 : Int) ≤ iI s 0 ∧ iI s 0 ≤ 200 := I.1 0
  have b2 : (0 : Int) ≤ iI s 74 ∧ iI s 74 ≤ 200 := I.1 74
  have b3 : (0 : Int) ≤ iI s 9 ∧ iI s 9 ≤ 12 := I.1 9
  have b4 : (0 : Int) ≤ iI s 90 ∧ iI s 90 ≤ 12 := I.1 90
  have b5 : (0 : Int) ≤ iI s 12 ∧ iI s 12 ≤ 9 := I.1 12
  have b6 : (1 : Int) ≤ iI s 89 ∧ iI s 89 ≤ 8 := I.1 89
  refine z_aload_n X (x := A 0) (show cdA 350 724 = some (.aload_n 1, 1, 0, 0, 0) from rfl) (List.Mem.tail _ (List.Mem.head _)) ?_
  refine z_aload_n X (x := q1) (show cdA 350 725 = some (.aload_n 0, 1, 0, 0, 0) from rfl) (List.Mem.head _) ?_
  refine z_load X (x := i) (show cdA 350 726 = some (.iload 4, 2, 0, 0, 0) from rfl) (List.Mem.tail _ (List.Mem.tail _ (List.Mem.tail _ (List.Mem.tail _ (List.Mem.head _))))) ?_
  refine z_const X (show cdA 350 728 = some (.iconst 1, 1, 0, 0, 0) from rfl) ?_
  refine z_add X (show cdA 350 729 = some (.iadd, 1, 0, 0, 0) from rfl) ?_
  refine z_sld X S hL (show cdA 350 730 = some (.iaload, 1, 0, 0, 0) from rfl) (show 0 ≤ (i + 1) ∧ (i + 1) < (L : Int) by omega) ?_
  have sr7 : rng (sc xs (i + 1)) := sc_rng
  refine z_aload_n X (x := q1) (show cdA 350 731 = some (.aload_n 0, 1, 0, 0, 0) from rfl) (List.Mem.head _) ?_
  refine z_load X (x := i) (show cdA 350 732 = some (.iload 4, 2, 0, 0, 0) from rfl) (List.Mem.tail _ (List.Mem.tail _ (List.Mem.tail _ (List.Mem.tail _ (List.Mem.head _))))) ?_
  refine z_const X (show cdA 350 734 = some (.iconst 2, 1, 0, 0, 0) from rfl) ?_
  refine z_add X (show cdA 350 735 = some (.iadd, 1, 0, 0, 0) from rfl) ?_
  refine z_sld X S hL (show cdA 350 736 = some (.iaload, 1, 0, 0, 0) from rfl) (show 0 ≤ (i + 2) ∧ (i + 2) < (L : Int) by omega) ?_
  have sr8 : rng (sc xs (i + 2)) := sc_rng
  refine z_aload_n X (x := q1) (show cdA 350 737 = some (.aload_n 0, 1, 0, 0, 0) from rfl) (List.Mem.head _) ?_
  refine z_load X (x := i) (show cdA 350 738 = some (.iload 4, 2, 0, 0, 0) from rfl) (List.Mem.tail _ (List.Mem.tail _ (List.Mem.tail _ (List.Mem.tail _ (List.Mem.head _))))) ?_
  refine z_const X (show cdA 350 740 = some (.iconst 3, 1, 0, 0, 0) from rfl) ?_
  refine z_add X (show cdA 350 741 = some (.iadd, 1, 0, 0, 0) from rfl) ?_
  refine z_sld X S hL (show cdA 350 742 = some (.iaload, 1, 0, 0, 0) from rfl) (show 0 ≤ (i + 3) ∧ (i + 3) < (L : Int) by omega) ?_
  have sr9 : rng (sc xs (i + 3)) := sc_rng
  refine z_aload_n X (x := A 517) (show cdA 350 743 = some (.aload_n 3, 1, 0, 0, 0) from rfl) (List.Mem.tail _ (List.Mem.tail _ (List.Mem.tail _ (List.Mem.head _)))) ?_
  refine z_callL X (rm := rmN 323) (As := [.ref (A 0), .int (Int32.ofInt (sc xs (i + 1))), .int (Int32.ofInt (sc xs (i + 2))), .int (Int32.ofInt (sc xs (i + 3))), .ref (A 517)]) (st := []) (show cdA 350 744 = some (.invokestatic 183, 3, 323, 6, 0) from rfl) (by decide) rfl (by rw [E.1, E.2.1, E.2.2.1]; exact lw_hears G I (by omega) (by omega) (by omega)) ⟨by rw [E.2.2.2]; exact (show 11 + 1 ≤ 2048 by omega), by rw [E.2.2.2]; exact (show 8 + (6 + 11) + 229 ≤ 84000 by omega), by rw [E.2.2.2]; exact (show ce + 3 ≤ 601024 by omega), by rw [E.2.2.2]; exact (show sl + 18 ≤ 7293034 by omega)⟩ (Nat.le_of_ble_eq_true rfl) (fun vv A s10 hA2 hq => ?_) (fun ee A s10 hA2 hq => ?_)
  rotate_left
  · obtain ⟨Is10, Fs10, e11, hv, hrs10, hps10⟩ := hq; cases hv
  obtain ⟨Is10, Fs10, e11, hv, hrs10, hps10⟩ := hq
  cases hv
  rw [← hA2 0 (by decide)]
  rw [← hA2 179 (by decide)]
  rw [← hA2 517 (by decide)]
  have Gs10 := fm_ts F Fs10 (by decide) (by decide)
  have JRLx_s10 : RLx s10 := RLx_fm Fs10 (by decide) jR
  have JFEQ_s10 : FEQ s10 := FEQ_fm Fs10 (by decide) jFEQ
  have ws10_0 : iI s10 0 = iI s 0 := fm_i Fs10 (by decide)
  have ws10_74 : iI s10 74 = iI s 74 := fm_i Fs10 (by decide)
  have ws10_9 : iI s10 9 = iI s 9 := fm_i Fs10 (by decide)
  have ws10_90 : iI s10 90 = iI s 90 := fm_i Fs10 (by decide)
  have ws10_12 : iI s10 12 = iI s 12 := fm_i Fs10 (by decide)
  have ws10_89 : iI s10 89 = iI s 89 := fm_i Fs10 (by decide)
  show WS k 747 [(0, .ref q1), (1, .ref (A 0)), (2, .ref (A 179)), (3, .ref (A 517)), (4, .int (Int32.ofInt i))] [.int (Int32.ofInt e11)] (Wd A dT s10) (ce + 3) (sl + 18)
  refine z_store X (lv' := [(5, .int (Int32.ofInt e11)), (0, .ref q1), (1, .ref (A 0)), (2, .ref (A 179)), (3, .ref (A 517)), (4, .int (Int32.ofInt i))]) (show cdA 350 747 = some (.istore 5, 2, 0, 0, 0) from rfl) (by decide) (fun _ h => h) ?_
  refine z_aload_n X (x := A 179) (show cdA 350 749 = some (.aload_n 2, 1, 0, 0, 0) from rfl) (List.Mem.tail _ (List.Mem.tail _ (List.Mem.tail _ (List.Mem.head _)))) ?_
  refine z_aload_n X (x := q1) (show cdA 350 750 = some (.aload_n 0, 1, 0, 0, 0) from rfl) (List.Mem.tail _ (List.Mem.head _)) ?_
  refine z_load X (x := i) (show cdA 350 751 = some (.iload 4, 2, 0, 0, 0) from rfl) (List.Mem.tail _ (List.Mem.tail _ (List.Mem.tail _ (List.Mem.tail _ (List.Mem.tail _ (List.Mem.head _)))))) ?_
  refine z_const X (show cdA 350 753 = some (.iconst 1, 1, 0, 0, 0) from rfl) ?_
  refine z_add X (show cdA 350 754 = some (.iadd, 1, 0, 0, 0) from rfl) ?_
  refine z_sld X S hL (show cdA 350 755 = some (.iaload, 1, 0, 0, 0) from rfl) (show 0 ≤ (i + 1) ∧ (i + 1) < (L : Int) by omega) ?_
  have sr12 : rng (sc xs (i + 1)) := sc_rng
  refine z_aload_n X (x := q1) (show cdA 350 756 = some (.aload_n 0, 1, 0, 0, 0) from rfl) (List.Mem.tail _ (List.Mem.head _)) ?_
  refine z_load X (x := i) (show cdA 350 757 = some (.iload 4, 2, 0, 0, 0) from rfl) (List.Mem.tail _ (List.Mem.tail _ (List.Mem.tail _ (List.Mem.tail _ (List.Mem.tail _ (List.Mem.head _)))))) ?_
  refine z_const X (show cdA 350 759 = some (.iconst 2, 1, 0, 0, 0) from rfl) ?_
  refine z_add X (show cdA 350 760 = some (.iadd, 1, 0, 0, 0) from rfl) ?_
  refine z_sld X S hL (show cdA 350 761 = some (.iaload, 1, 0, 0, 0) from rfl) (show 0 ≤ (i + 2) ∧ (i + 2) < (L : Int) by omega) ?_
  have sr13 : rng (sc xs (i + 2)) := sc_rng
  refine z_aload_n X (x := q1) (show cdA 350 762 = some (.aload_n 0, 1, 0, 0, 0) from rfl) (List.Mem.tail _ (List.Mem.head _)) ?_
  refine z_load X (x := i) (show cdA 350 763 = some (.iload 4, 2, 0, 0, 0) from rfl) (List.Mem.tail _ (List.Mem.tail _ (List.Mem.tail _ (List.Mem.tail _ (List.Mem.tail _ (List.Mem.head _)))))) ?_
  refine z_const X (show cdA 350 765 = some (.iconst 3, 1, 0, 0, 0) from rfl) ?_
  refine z_add X (show cdA 350 766 = some (.iadd, 1, 0, 0, 0) from rfl) ?_
  refine z_sld X S hL (show cdA 350 767 = some (.iaload, 1, 0, 0, 0) from rfl) (show 0 ≤ (i + 3) ∧ (i + 3) < (L : Int) by omega) ?_
  have sr14 : rng (sc xs (i + 3)) := sc_rng
  refine z_callV X 179 (rm := rmN 237) (As := [.int (Int32.ofInt (sc xs (i + 1))), .int (Int32.ofInt (sc xs (i + 2))), .int (Int32.ofInt (sc xs (i + 3)))]) (st := []) (show cdA 350 768 = some (.invokevirtual 185, 3, 237, 0, 0) from rfl) rfl (by decide) rfl (by rw [E.1, E.2.1, E.2.2.1]; exact k_hears G Is10 JRLx_s10 (by first | exact ⟨sr12.1, sr12.2⟩ | omega) (by first | exact ⟨sr13.1, sr13.2⟩ | omega) (by first | exact ⟨sr14.1, sr14.2⟩ | omega)) ⟨by rw [E.2.2.2]; exact (show 37 + 1 ≤ 2048 by omega), by rw [E.2.2.2]; exact (show 8 + (5 + 11) + 1578 ≤ 84000 by omega), by rw [E.2.2.2]; exact (show (ce + 3) + 0 ≤ 601024 by omega), by rw [E.2.2.2]; exact (show (sl + 18) + 0 ≤ 7293034 by omega)⟩ (Nat.le_of_ble_eq_true rfl) (fun vv s15 hq => ?_) (fun ee s15 hq => ?_)
  rotate_left
  · obtain ⟨Is15, Fs15, JRLx_s15, e16, hv, hrs15, hps15⟩ := hq; cases hv
  obtain ⟨Is15, Fs15, JRLx_s15, e16, hv, hrs15, hps15⟩ := hq
  cases hv
  have Gs15 := fm_ts Gs10 Fs15 (by decide) (by decide)
  have JRLx_s15 : RLx s15 := RLx_fm Fs15 (by decide) JRLx_s10
  have JFEQ_s15 : FEQ s15 := FEQ_fm Fs15 (by decide) JFEQ_s10
  have ws15_0 : iI s15 0 = iI s10 0 := fm_i Fs15 (by decide)
  have ws15_74 : iI s15 74 = iI s10 74 := fm_i Fs15 (by decide)
  have ws15_9 : iI s15 9 = iI s10 9 := fm_i Fs15 (by decide)
  have ws15_90 : iI s15 90 = iI s10 90 := fm_i Fs15 (by decide)
  have ws15_12 : iI s15 12 = iI s10 12 := fm_i Fs15 (by decide)
  have ws15_89 : iI s15 89 = iI s10 89 := fm_i Fs15 (by decide)
  have wos15 : iO s15 = iO s10 := fm_o Fs15 (by decide)
  show WS k 771 [(5, .int (Int32.ofInt e11)), (0, .ref q1), (1, .ref (A 0)), (2, .ref (A 179)), (3, .ref (A 517)), (4, .int (Int32.ofInt i))] [.int (Int32.ofInt e16)] (Wd A dT s15) (ce + 3) (sl + 18)
  refine z_store X (lv' := [(6, .int (Int32.ofInt e16)), (5, .int (Int32.ofInt e11)), (0, .ref q1), (1, .ref (A 0)), (2, .ref (A 179)), (3, .ref (A 517)), (4, .int (Int32.ofInt i))]) (show cdA 350 771 = some (.istore 6, 2, 0, 0, 0) from rfl) (by decide) (fun _ h => h) ?_
  refine z_goto X (t := 1894) (show cdA 350 773 = some (.goto 1121, 3, 0, 0, 0) from rfl) (by decide) ?_
  refine w_widen (ce' := ce + 29) (sl' := sl + 222) (by omega) (by omega) ?_
  exact WS_lv (lv := [(0, .ref q1), (1, .ref (A 0)), (2, .ref (A 179)), (3, .ref (A 517)), (4, .int (Int32.ofInt i))]) (List.forall_mem_cons.mpr ⟨(List.Mem.tail _ (List.Mem.tail _ (List.Mem.head _))), (List.forall_mem_cons.mpr ⟨(List.Mem.tail _ (List.Mem.tail _ (List.Mem.tail _ (List.Mem.head _)))), (List.forall_mem_cons.mpr ⟨(List.Mem.tail _ (List.Mem.tail _ (List.Mem.tail _ (List.Mem.tail _ (List.Mem.head _))))), (List.forall_mem_cons.mpr ⟨(List.Mem.tail _ (List.Mem.tail _ (List.Mem.tail _ (List.Mem.tail _ (List.Mem.tail _ (List.Mem.head _)))))), (List.forall_mem_cons.mpr ⟨(List.Mem.tail _ (List.Mem.tail _ (List.Mem.tail _ (List.Mem.tail _ (List.Mem.tail _ (List.Mem.tail _ (List.Mem.head _))))))), (fun q h => absurd h List.not_mem_nil)⟩)⟩)⟩)⟩)⟩) (hk A _ Is15 JRLx_s15 JFEQ_s15 (by omega) (by omega) (by omega) (by omega))
theorem lc_12 (G : GX l s0 D tys a0 dT) (GR : RS0 s0) (SF : SF0 s0) (GT : TXs0 s0) (GW : TXw0 s0) {k : kx_T} (X : AX k 350 dT) (E : kL k = l ∧ kS0 k = s0 ∧ kD k = D ∧ kR k = room_1) {q1 L : Nat} {xs : Nat → Int32} (S : SX k q1 L xs) (hL : L ≤ 3072) (I : Bd s) (jR : RLx s) (jFEQ : FEQ s) (p1 : iI s 89 = 1) (p2 : iI s 12 ≤ 8) (p3 : iI s 0 = iI s 74) (p4 : iI s 9 = iI s 90) {i : Int} (hi : 0 ≤ i ∧ i + 6 ≤ (L : Int)) {ce sl : Nat} (hce : ce + 29 ≤ 601024) (hsl : sl + 222 ≤ 7293034) (hk : ∀ (A : Nat → Nat) (t : PS), Bd t → RLx t → FEQ t → iI t 89 = 1 → iI t 12 ≤ 8 → iI t 0 = iI t 74 → iI t 9 = iI t 90 → WS k 1894 [(0, .ref q1), (1, .ref (A 0)), (2, .ref (A 179)), (3, .ref (A 517)), (4, .int (Int32.ofInt i))] [] (Wd A dT t) (ce + 29) (sl + 222)) : WS k 776 [(0, .ref q1), (1, .ref (A 0)), (2, .ref (A 179)), (3, .ref (A 517)), (4, .int (Int32.ofInt i))] [] (Wd A dT s) ce sl := by
  have F : Fm [22, 23, 24, 73, 77, 75, 78, 79, 80, 81] [33, 26, 27, 28, 29, 30, 31, 32, 20, 1460, 202, 204, 205, 206, 207, 208, 209, 210, 211, 212, 213, 214, 215, 216, 217, 218, 219, 220, 221, 222, 223, 224, 225, 226, 227, 203, 161, 230] s s := fm_rf _ _ s
  have b1 : (0 : Int) ≤ iI s 0 ∧ iI s 0 ≤ 200 := I.1 0
  have b2 : (0 : Int) ≤ iI s 74 ∧ iI s 74 ≤ 200 := I.1 74
  have b3 : (0 : Int) ≤ iI s 9 ∧ iI s 9 ≤ 12 := I.1 9
  have b4 : (0 : Int) ≤ iI s 90 ∧ iI s 90 ≤ 12 := I.1 90
  have b5 : (0 : Int) ≤ iI s 12 ∧ iI s 12 ≤ 9 := I.1 12
  have b6 : (1 : Int) ≤ iI s 89 ∧ iI s 89 ≤ 8 := I.1 89
  refine z_aload_n X (x := A 0) (show cdA 350 776 = some (.aload_n 1, 1, 0, 0, 0) from rfl) (List.Mem.tail _ (List.Mem.head _)) ?_
  refine z_aload_n X (x := q1) (show cdA 350 777 = some (.aload_n 0, 1, 0, 0, 0) from rfl) (List.Mem.head _) ?_
  refine z_load X (x := i) (show cdA 350 778 = some (.iload 4, 2, 0, 0, 0) from rfl) (List.Mem.tail _ (List.Mem.tail _ (List.Mem.tail _ (List.Mem.tail _ (List.Mem.head _))))) ?_
  refine z_const X (show cdA 350 780 = some (.iconst 1, 1, 0, 0, 0) from rfl) ?_
  refine z_add X (show cdA 350 781 = some (.iadd, 1, 0, 0, 0) from rfl) ?_
  refine z_sld X S hL (show cdA 350 782 = some (.iaload, 1, 0, 0, 0) from rfl) (show 0 ≤ (i + 1) ∧ (i + 1) < (L : Int) by omega) ?_
  have sr7 : rng (sc xs (i + 1)) := sc_rng
  refine z_aload_n X (x := q1) (show cdA 350 783 = some (.aload_n 0, 1, 0, 0, 0) from rfl) (List.Mem.head _) ?_
  refine z_load X (x := i) (show cdA 350 784 = some (.iload 4, 2, 0, 0, 0) from rfl) (List.Mem.tail _ (List.Mem.tail _ (List.Mem.tail _ (List.Mem.tail _ (List.Mem.head _))))) ?_
  refine z_const X (show cdA 350 786 = some (.iconst 2, 1, 0, 0, 0) from rfl) ?_
  refine z_add X (show cdA 350 787 = some (.iadd, 1, 0, 0, 0) from rfl) ?_
  refine z_sld X S hL (show cdA 350 788 = some (.iaload, 1, 0, 0, 0) from rfl) (show 0 ≤ (i + 2) ∧ (i + 2) < (L : Int) by omega) ?_
  have sr8 : rng (sc xs (i + 2)) := sc_rng
  refine z_aload_n X (x := A 517) (show cdA 350 789 = some (.aload_n 3, 1, 0, 0, 0) from rfl) (List.Mem.tail _ (List.Mem.tail _ (List.Mem.tail _ (List.Mem.head _)))) ?_
  refine z_callL X (rm := rmN 324) (As := [.ref (A 0), .int (Int32.ofInt (sc xs (i + 1))), .int (Int32.ofInt (sc xs (i + 2))), .ref (A 517)]) (st := []) (show cdA 350 790 = some (.invokestatic 186, 3, 324, 6, 0) from rfl) (by decide) rfl (by rw [E.1, E.2.1, E.2.2.1]; exact lw_peak G I (by omega) (by omega)) ⟨by rw [E.2.2.2]; exact (show 11 + 1 ≤ 2048 by omega), by rw [E.2.2.2]; exact (show 8 + (5 + 11) + 228 ≤ 84000 by omega), by rw [E.2.2.2]; exact (show ce + 2 ≤ 601024 by omega), by rw [E.2.2.2]; exact (show sl + 12 ≤ 7293034 by omega)⟩ (Nat.le_of_ble_eq_true rfl) (fun vv A s9 hA2 hq => ?_) (fun ee A s9 hA2 hq => ?_)
  rotate_left
  · obtain ⟨Is9, Fs9, e10, hv, hrs9, hps9⟩ := hq; cases hv
  obtain ⟨Is9, Fs9, e10, hv, hrs9, hps9⟩ := hq
  cases hv
  rw [← hA2 0 (by decide)]
  rw [← hA2 179 (by decide)]
  rw [← hA2 517 (by decide)]
  have Gs9 := fm_ts F Fs9 (by decide) (by decide)
  have JRLx_s9 : RLx s9 := RLx_fm Fs9 (by decide) jR
  have JFEQ_s9 : FEQ s9 := FEQ_fm Fs9 (by decide) jFEQ
  have ws9_0 : iI s9 0 = iI s 0 := fm_i Fs9 (by decide)
  have ws9_74 : iI s9 74 = iI s 74 := fm_i Fs9 (by decide)
  have ws9_9 : iI s9 9 = iI s 9 := fm_i Fs9 (by decide)
  have ws9_90 : iI s9 90 = iI s 90 := fm_i Fs9 (by decide)
  have ws9_12 : iI s9 12 = iI s 12 := fm_i Fs9 (by decide)
  have ws9_89 : iI s9 89 = iI s 89 := fm_i Fs9 (by decide)
  show WS k 793 [(0, .ref q1), (1, .ref (A 0)), (2, .ref (A 179)), (3, .ref (A 517)), (4, .int (Int32.ofInt i))] [.int (Int32.ofInt e10)] (Wd A dT s9) (ce + 2) (sl + 12)
  refine z_store X (lv' := [(5, .int (Int32.ofInt e10)), (0, .ref q1), (1, .ref (A 0)), (2, .ref (A 179)), (3, .ref (A 517)), (4, .int (Int32.ofInt i))]) (show cdA 350 793 = some (.istore 5, 2, 0, 0, 0) from rfl) (by decide) (fun _ h => h) ?_
  refine z_aload_n X (x := A 179) (show cdA 350 795 = some (.aload_n 2, 1, 0, 0, 0) from rfl) (List.Mem.tail _ (List.Mem.tail _ (List.Mem.tail _ (List.Mem.head _)))) ?_
  refine z_aload_n X (x := q1) (show cdA 350 796 = some (.aload_n 0, 1, 0, 0, 0) from rfl) (List.Mem.tail _ (List.Mem.head _)) ?_
  refine z_load X (x := i) (show cdA 350 797 = some (.iload 4, 2, 0, 0, 0) from rfl) (List.Mem.tail _ (List.Mem.tail _ (List.Mem.tail _ (List.Mem.tail _ (List.Mem.tail _ (List.Mem.head _)))))) ?_
  refine z_const X (show cdA 350 799 = some (.iconst 1, 1, 0, 0, 0) from rfl) ?_
  refine z_add X (show cdA 350 800 = some (.iadd, 1, 0, 0, 0) from rfl) ?_
  refine z_sld X S hL (show cdA 350 801 = some (.iaload, 1, 0, 0, 0) from rfl) (show 0 ≤ (i + 1) ∧ (i + 1) < (L : Int) by omega) ?_
  have sr11 : rng (sc xs (i + 1)) := sc_rng
  refine z_aload_n X (x := q1) (show cdA 350 802 = some (.aload_n 0, 1, 0, 0, 0) from rfl) (List.Mem.tail _ (List.Mem.head _)) ?_
  refine z_load X (x := i) (show cdA 350 803 = some (.iload 4, 2, 0, 0, 0) from rfl) (List.Mem.tail _ (List.Mem.tail _ (List.Mem.tail _ (List.Mem.tail _ (List.Mem.tail _ (List.Mem.head _)))))) ?_
  refine z_const X (show cdA 350 805 = some (.iconst 2, 1, 0, 0, 0) from rfl) ?_
  refine z_add X (show cdA 350 806 = some (.iadd, 1, 0, 0, 0) from rfl) ?_
  refine z_sld X S hL (show cdA 350 807 = some (.iaload, 1, 0, 0, 0) from rfl) (show 0 ≤ (i + 2) ∧ (i + 2) < (L : Int) by omega) ?_
  have sr12 : rng (sc xs (i + 2)) := sc_rng
  refine z_callV X 179 (rm := rmN 238) (As := [.int (Int32.ofInt (sc xs (i + 1))), .int (Int32.ofInt (sc xs (i + 2)))]) (st := []) (show cdA 350 808 = some (.invokevirtual 188, 3, 238, 0, 0) from rfl) rfl (by decide) rfl (by rw [E.1, E.2.1, E.2.2.1]; exact k_peak G Is9 JRLx_s9 (by first | exact ⟨sr11.1, sr11.2⟩ | omega) (by first | exact ⟨sr12.1, sr12.2⟩ | omega)) ⟨by rw [E.2.2.2]; exact (show 39 + 1 ≤ 2048 by omega), by rw [E.2.2.2]; exact (show 8 + (5 + 11) + 1622 ≤ 84000 by omega), by rw [E.2.2.2]; exact (show (ce + 2) + 0 ≤ 601024 by omega), by rw [E.2.2.2]; exact (show (sl + 12) + 0 ≤ 7293034 by omega)⟩ (Nat.le_of_ble_eq_true rfl) (fun vv s13 hq => ?_) (fun ee s13 hq => ?_)
  rotate_left
  · obtain ⟨Is13, Fs13, JRLx_s13, e14, hv, hrs13, hps13⟩ := hq; cases hv
  obtain ⟨Is13, Fs13, JRLx_s13, e14, hv, hrs13, hps13⟩ := hq
  cases hv
  have Gs13 := fm_ts Gs9 Fs13 (by decide) (by decide)
  have JRLx_s13 : RLx s13 := RLx_fm Fs13 (by decide) JRLx_s9
  have JFEQ_s13 : FEQ s13 := FEQ_fm Fs13 (by decide) JFEQ_s9
  have ws13_0 : iI s13 0 = iI s9 0 := fm_i Fs13 (by decide)
  have ws13_74 : iI s13 74 = iI s9 74 := fm_i Fs13 (by decide)
  have ws13_9 : iI s13 9 = iI s9 9 := fm_i Fs13 (by decide)
  have ws13_90 : iI s13 90 = iI s9 90 := fm_i Fs13 (by decide)
  have ws13_12 : iI s13 12 = iI s9 12 := fm_i Fs13 (by decide)
  have ws13_89 : iI s13 89 = iI s9 89 := fm_i Fs13 (by decide)
  have wos13 : iO s13 = iO s9 := fm_o Fs13 (by decide)
  show WS k 811 [(5, .int (Int32.ofInt e10)), (0, .ref q1), (1, .ref (A 0)), (2, .ref (A 179)), (3, .ref (A 517)), (4, .int (Int32.ofInt i))] [.int (Int32.ofInt e14)] (Wd A dT s13) (ce + 2) (sl + 12)
  refine z_store X (lv' := [(6, .int (Int32.ofInt e14)), (5, .int (Int32.ofInt e10)), (0, .ref q1), (1, .ref (A 0)), (2, .ref (A 179)), (3, .ref (A 517)), (4, .int (Int32.ofInt i))]) (show cdA 350 811 = some (.istore 6, 2, 0, 0, 0) from rfl) (by decide) (fun _ h => h) ?_
  refine z_goto X (t := 1894) (show cdA 350 813 = some (.goto 1081, 3, 0, 0, 0) from rfl) (by decide) ?_
  refine w_widen (ce' := ce + 29) (sl' := sl + 222) (by omega) (by omega) ?_
  exact WS_lv (lv := [(0, .ref q1), (1, .ref (A 0)), (2, .ref (A 179)), (3, .ref (A 517)), (4, .int (Int32.ofInt i))]) (List.forall_mem_cons.mpr ⟨(List.Mem.tail _ (List.Mem.tail _ (List.Mem.head _))), (List.forall_mem_cons.mpr ⟨(List.Mem.tail _ (List.Mem.tail _ (List.Mem.tail _ (List.Mem.head _)))), (List.forall_mem_cons.mpr ⟨(List.Mem.tail _ (List.Mem.tail _ (List.Mem.tail _ (List.Mem.tail _ (List.Mem.head _))))), (List.forall_mem_cons.mpr ⟨(List.Mem.tail _ (List.Mem.tail _ (List.Mem.tail _ (List.Mem.tail _ (List.Mem.tail _ (List.Mem.head _)))))), (List.forall_mem_cons.mpr ⟨(List.Mem.tail _ (List.Mem.tail _ (List.Mem.tail _ (List.Mem.tail _ (List.Mem.tail _ (List.Mem.tail _ (List.Mem.head _))))))), (fun q h => absurd h List.not_mem_nil)⟩)⟩)⟩)⟩)⟩) (hk A _ Is13 JRLx_s13 JFEQ_s13 (by omega) (by omega) (by omega) (by omega))
theorem lc_13 (G : GX l s0 D tys a0 dT) (GR : RS0 s0) (SF : SF0 s0) (GT : TXs0 s0) (GW : TXw0 s0) {k : kx_T} (X : AX k 350 dT) (E : kL k = l ∧ kS0 k = s0 ∧ kD k = D ∧ kR k = room_1) {q1 L : Nat} {xs : Nat → Int32} (S : SX k q1 L xs) (hL : L ≤ 3072) (I : Bd s) (jR : RLx s) (jFEQ : FEQ s) (p1 : iI s 89 = 1) (p2 : iI s 12 ≤ 8) (p3 : iI s 0 = iI s 74) (p4 : iI s 9 = iI s 90) {i : Int} (hi : 0 ≤ i ∧ i + 6 ≤ (L : Int)) {ce sl : Nat} (hce : ce + 29 ≤ 601024) (hsl : sl + 222 ≤ 7293034) (hk : ∀ (A : Nat → Nat) (t : PS), Bd t → RLx t → FEQ t → iI t 89 = 1 → iI t 12 ≤ 8 → iI t 0 = iI t 74 → iI t 9 = iI t 90 → WS k 1894 [(0, .ref q1), (1, .ref (A 0)), (2, .ref (A 179)), (3, .ref (A 517)), (4, .int (Int32.ofInt i))] [] (Wd A dT t) (ce + 29) (sl + 222)) : WS k 816 [(0, .ref q1), (1, .ref (A 0)), (2, .ref (A 179)), (3, .ref (A 517)), (4, .int (Int32.ofInt i))] [] (Wd A dT s) ce sl := by
  have F : Fm [73] [1460, 231, 232, 230] s s := fm_rf _ _ s
  have b1 : (0 : Int) ≤ iI s 0 ∧ iI s 0 ≤ 200 := I.1 0
  have b2 : (0 : Int) ≤ iI s 74 ∧ iI s 74 ≤ 200 := I.1 74
  have b3 : (0 : Int) ≤ iI s 9 ∧ iI s 9 ≤ 12 := I.1 9
  have b4 : (0 : Int) ≤ iI s 90 ∧ iI s 90 ≤ 12 := I.1 90
  have b5 : (0 : Int) ≤ iI s 12 ∧ iI s 12 ≤ 9 := I.1 12
  have b6 : (1 : Int) ≤ iI s 89 ∧ iI s 89 ≤ 8 := I.1 89
  refine z_aload_n X (x := A 0) (show cdA 350 816 = some (.aload_n 1, 1, 0, 0, 0) from rfl) (List.Mem.tail _ (List.Mem.head _)) ?_
  refine z_aload_n X (x := q1) (show cdA 350 817 = some (.aload_n 0, 1, 0, 0, 0) from rfl) (List.Mem.head _) ?_
  refine z_load X (x := i) (show cdA 350 818 = some (.iload 4, 2, 0, 0, 0) from rfl) (List.Mem.tail _ (List.Mem.tail _ (List.Mem.tail _ (List.Mem.tail _ (List.Mem.head _))))) ?_
  refine z_const X (show cdA 350 820 = some (.iconst 1, 1, 0, 0, 0) from rfl) ?_
  refine z_add X (show cdA 350 821 = some (.iadd, 1, 0, 0, 0) from rfl) ?_
  refine z_sld X S hL (show cdA 350 822 = some (.iaload, 1, 0, 0, 0) from rfl) (show 0 ≤ (i + 1) ∧ (i + 1) < (L : Int) by omega) ?_
  have sr7 : rng (sc xs (i + 1)) := sc_rng
  refine z_aload_n X (x := A 517) (show cdA 350 823 = some (.aload_n 3, 1, 0, 0, 0) from rfl) (List.Mem.tail _ (List.Mem.tail _ (List.Mem.tail _ (List.Mem.head _)))) ?_
  refine z_callL X (rm := rmN 325) (As := [.ref (A 0), .int (Int32.ofInt (sc xs (i + 1))), .ref (A 517)]) (st := []) (show cdA 350 824 = some (.invokestatic 189, 3, 325, 6, 0) from rfl) (by decide) rfl (by rw [E.1, E.2.1, E.2.2.1]; exact lw_whole G I (by omega)) ⟨by rw [E.2.2.2]; exact (show 10 + 1 ≤ 2048 by omega), by rw [E.2.2.2]; exact (show 8 + (4 + 11) + 203 ≤ 84000 by omega), by rw [E.2.2.2]; exact (show ce + 1 ≤ 601024 by omega), by rw [E.2.2.2]; exact (show sl + 6 ≤ 7293034 by omega)⟩ (Nat.le_of_ble_eq_true rfl) (fun vv A s8 hA2 hq => ?_) (fun ee A s8 hA2 hq => ?_)
  rotate_left
  · obtain ⟨Is8, Fs8, e9, hv, hrs8, hps8⟩ := hq; cases hv
  obtain ⟨Is8, Fs8, e9, hv, hrs8, hps8⟩ := hq
  cases hv
  rw [← hA2 0 (by decide)]
  rw [← hA2 179 (by decide)]
  rw [← hA2 517 (by decide)]
  have Gs8 := fm_ts F Fs8 (by decide) (by decide)
  have JRLx_s8 : RLx s8 := RLx_fm Fs8 (by decide) jR
  have JFEQ_s8 : FEQ s8 := FEQ_fm Fs8 (by decide) jFEQ
  have ws8_0 : iI s8 0 = iI s 0 := fm_i Fs8 (by decide)
  have ws8_74 : iI s8 74 = iI s 74 := fm_i Fs8 (by decide)
  have ws8_9 : iI s8 9 = iI s 9 := fm_i Fs8 (by decide)
  have ws8_90 : iI s8 90 = iI s 90 := fm_i Fs8 (by decide)
  have ws8_12 : iI s8 12 = iI s 12 := fm_i Fs8 (by decide)
  have ws8_89 : iI s8 89 = iI s 89 := fm_i Fs8 (by decide)
  show WS k 827 [(0, .ref q1), (1, .ref (A 0)), (2, .ref (A 179)), (3, .ref (A 517)), (4, .int (Int32.ofInt i))] [.int (Int32.ofInt e9)] (Wd A dT s8) (ce + 1) (sl + 6)
  refine z_store X (lv' := [(5, .int (Int32.ofInt e9)), (0, .ref q1), (1, .ref (A 0)), (2, .ref (A 179)), (3, .ref (A 517)), (4, .int (Int32.ofInt i))]) (show cdA 350 827 = some (.istore 5, 2, 0, 0, 0) from rfl) (by decide) (fun _ h => h) ?_
  refine z_aload_n X (x := A 179) (show cdA 350 829 = some (.aload_n 2, 1, 0, 0, 0) from rfl) (List.Mem.tail _ (List.Mem.tail _ (List.Mem.tail _ (List.Mem.head _)))) ?_
  refine z_aload_n X (x := q1) (show cdA 350 830 = some (.aload_n 0, 1, 0, 0, 0) from rfl) (List.Mem.tail _ (List.Mem.head _)) ?_
  refine z_load X (x := i) (show cdA 350 831 = some (.iload 4, 2, 0, 0, 0) from rfl) (List.Mem.tail _ (List.Mem.tail _ (List.Mem.tail _ (List.Mem.tail _ (List.Mem.tail _ (List.Mem.head _)))))) ?_
  refine z_const X (show cdA 350 833 = some (.iconst 1, 1, 0, 0, 0) from rfl) ?_
  refine z_add X (show cdA 350 834 = some (.iadd, 1, 0, 0, 0) from rfl) ?_
  refine z_sld X S hL (show cdA 350 835 = some (.iaload, 1, 0, 0, 0) from rfl) (show 0 ≤ (i + 1) ∧ (i + 1) < (L : Int) by omega) ?_
  have sr10 : rng (sc xs (i + 1)) := sc_rng
  refine z_callV X 179 (rm := rmN 241) (As := [.int (Int32.ofInt (sc xs (i + 1)))]) (st := []) (show cdA 350 836 = some (.invokevirtual 191, 3, 241, 0, 0) from rfl) rfl (by decide) rfl (by rw [E.1, E.2.1, E.2.2.1]; exact k_whole G Is8 (by first | exact ⟨sr10.1, sr10.2⟩ | omega)) ⟨by rw [E.2.2.2]; exact (show 9 + 1 ≤ 2048 by omega), by rw [E.2.2.2]; exact (show 8 + (2 + 11) + 171 ≤ 84000 by omega), by rw [E.2.2.2]; exact (show (ce + 1) + 0 ≤ 601024 by omega), by rw [E.2.2.2]; exact (show (sl + 6) + 0 ≤ 7293034 by omega)⟩ (Nat.le_of_ble_eq_true rfl) (fun vv s11 hq => ?_) (fun ee s11 hq => ?_)
  rotate_left
  · obtain ⟨Is11, Fs11, e12, hv, hrs11, hps11⟩ := hq; cases hv
  obtain ⟨Is11, Fs11, e12, hv, hrs11, hps11⟩ := hq
  cases hv
  have Gs11 := fm_ts Gs8 Fs11 (by decide) (by decide)
  have JRLx_s11 : RLx s11 := RLx_fm Fs11 (by decide) JRLx_s8
  have JFEQ_s11 : FEQ s11 := FEQ_fm Fs11 (by decide) JFEQ_s8
  have ws11_0 : iI s11 0 = iI s8 0 := fm_i Fs11 (by decide)
  have ws11_74 : iI s11 74 = iI s8 74 := fm_i Fs11 (by decide)
  have ws11_9 : iI s11 9 = iI s8 9 := fm_i Fs11 (by decide)
  have ws11_90 : iI s11 90 = iI s8 90 := fm_i Fs11 (by decide)
  have ws11_12 : iI s11 12 = iI s8 12 := fm_i Fs11 (by decide)
  have ws11_89 : iI s11 89 = iI s8 89 := fm_i Fs11 (by decide)
  have wos11 : iO s11 = iO s8 := fm_o Fs11 (by decide)
  show WS k 839 [(5, .int (Int32.ofInt e9)), (0, .ref q1), (1, .ref (A 0)), (2, .ref (A 179)), (3, .ref (A 517)), (4, .int (Int32.ofInt i))] [.int (Int32.ofInt e12)] (Wd A dT s11) (ce + 1) (sl + 6)
  refine z_store X (lv' := [(6, .int (Int32.ofInt e12)), (5, .int (Int32.ofInt e9)), (0, .ref q1), (1, .ref (A 0)), (2, .ref (A 179)), (3, .ref (A 517)), (4, .int (Int32.ofInt i))]) (show cdA 350 839 = some (.istore 6, 2, 0, 0, 0) from rfl) (by decide) (fun _ h => h) ?_
  refine z_goto X (t := 1894) (show cdA 350 841 = some (.goto 1053, 3, 0, 0, 0) from rfl) (by decide) ?_
  refine w_widen (ce' := ce + 29) (sl' := sl + 222) (by omega) (by omega) ?_
  exact WS_lv (lv := [(0, .ref q1), (1, .ref (A 0)), (2, .ref (A 179)), (3, .ref (A 517)), (4, .int (Int32.ofInt i))]) (List.forall_mem_cons.mpr ⟨(List.Mem.tail _ (List.Mem.tail _ (List.Mem.head _))), (List.forall_mem_cons.mpr ⟨(List.Mem.tail _ (List.Mem.tail _ (List.Mem.tail _ (List.Mem.head _)))), (List.forall_mem_cons.mpr ⟨(List.Mem.tail _ (List.Mem.tail _ (List.Mem.tail _ (List.Mem.tail _ (List.Mem.head _))))), (List.forall_mem_cons.mpr ⟨(List.Mem.tail _ (List.Mem.tail _ (List.Mem.tail _ (List.Mem.tail _ (List.Mem.tail _ (List.Mem.head _)))))), (List.forall_mem_cons.mpr ⟨(List.Mem.tail _ (List.Mem.tail _ (List.Mem.tail _ (List.Mem.tail _ (List.Mem.tail _ (List.Mem.tail _ (List.Mem.head _))))))), (fun q h => absurd h List.not_mem_nil)⟩)⟩)⟩)⟩)⟩) (hk A _ Is11 JRLx_s11 JFEQ_s11 (by omega) (by omega) (by omega) (by omega))
theorem lc_14 (G : GX l s0 D tys a0 dT) (GR : RS0 s0) (SF : SF0 s0) (GT : TXs0 s0) (GW : TXw0 s0) {k : kx_T} (X : AX k 350 dT) (E : kL k = l ∧ kS0 k = s0 ∧ kD k = D ∧ kR k = room_1) {q1 L : Nat} {xs : Nat → Int32} (S : SX k q1 L xs) (hL : L ≤ 3072) (I : Bd s) (jR : RLx s) (jFEQ : FEQ s) (p1 : iI s 89 = 1) (p2 : iI s 12 ≤ 8) (p3 : iI s 0 = iI s 74) (p4 : iI s 9 = iI s 90) {i : Int} (hi : 0 ≤ i ∧ i + 6 ≤ (L : Int)) {ce sl : Nat} (hce : ce + 29 ≤ 601024) (hsl : sl + 222 ≤ 7293034) (hk : ∀ (A : Nat → Nat) (t : PS), Bd t → RLx t → FEQ t → iI t 89 = 1 → iI t 12 ≤ 8 → iI t 0 = iI t 74 → iI t 9 = iI t 90 → WS k 1894 [(0, .ref q1), (1, .ref (A 0)), (2, .ref (A 179)), (3, .ref (A 517)), (4, .int (Int32.ofInt i))] [] (Wd A dT t) (ce + 29) (sl + 222)) : WS k 844 [(0, .ref q1), (1, .ref (A 0)), (2, .ref (A 179)), (3, .ref (A 517)), (4, .int (Int32.ofInt i))] [] (Wd A dT s) ce sl := by
  have F : Fm [73] [1460, 231, 232, 230] s s := fm_rf _ _ s
  have b1 : (0 : Int) ≤ iI s 0 ∧ iI s 0 ≤ 200 := I.1 0
  have b2 : (0 : Int) ≤ iI s 74 ∧ iI s 74 ≤ 200 := I.1 74
  have b3 : (0 : Int) ≤ iI s 9 ∧ iI s 9 ≤ 12 := I.1 9
  have b4 : (0 : Int) ≤ iI s 90 ∧ iI s 90 ≤ 12 := I.1 90
  have b5 : (0 : Int) ≤ iI s 12 ∧ iI s 12 ≤ 9 := I.1 12
  have b6 : (1 : Int) ≤ iI s 89 ∧ iI s 89 ≤ 8 := I.1 89
  refine z_aload_n X (x := A 0) (show cdA 350 844 = some (.aload_n 1, 1, 0, 0, 0) from rfl) (List.Mem.tail _ (List.Mem.head _)) ?_
  refine z_aload_n X (x := q1) (show cdA 350 845 = some (.aload_n 0, 1, 0, 0, 0) from rfl) (List.Mem.head _) ?_
  refine z_load X (x := i) (show cdA 350 846 = some (.iload 4, 2, 0, 0, 0) from rfl) (List.Mem.tail _ (List.Mem.tail _ (List.Mem.tail _ (List.Mem.tail _ (List.Mem.head _))))) ?_
  refine z_const X (show cdA 350 848 = some (.iconst 1, 1, 0, 0, 0) from rfl) ?_
  refine z_add X (show cdA 350 849 = some (.iadd, 1, 0, 0, 0) from rfl) ?_
  refine z_sld X S hL (show cdA 350 850 = some (.iaload, 1, 0, 0, 0) from rfl) (show 0 ≤ (i + 1) ∧ (i + 1) < (L : Int) by omega) ?_
  have sr7 : rng (sc xs (i + 1)) := sc_rng
  refine z_aload_n X (x := q1) (show cdA 350 851 = some (.aload_n 0, 1, 0, 0, 0) from rfl) (List.Mem.head _) ?_
  refine z_load X (x := i) (show cdA 350 852 = some (.iload 4, 2, 0, 0, 0) from rfl) (List.Mem.tail _ (List.Mem.tail _ (List.Mem.tail _ (List.Mem.tail _ (List.Mem.head _))))) ?_
  refine z_const X (show cdA 350 854 = some (.iconst 2, 1, 0, 0, 0) from rfl) ?_
  refine z_add X (show cdA 350 855 = some (.iadd, 1, 0, 0, 0) from rfl) ?_
  refine z_sld X S hL (show cdA 350 856 = some (.iaload, 1, 0, 0, 0) from rfl) (show 0 ≤ (i + 2) ∧ (i + 2) < (L : Int) by omega) ?_
  have sr8 : rng (sc xs (i + 2)) := sc_rng
  refine z_aload_n X (x := A 517) (show cdA 350 857 = some (.aload_n 3, 1, 0, 0, 0) from rfl) (List.Mem.tail _ (List.Mem.tail _ (List.Mem.tail _ (List.Mem.head _)))) ?_
  refine z_callL X (rm := rmN 326) (As := [.ref (A 0), .int (Int32.ofInt (sc xs (i + 1))), .int (Int32.ofInt (sc xs (i + 2))), .ref (A 517)]) (st := []) (show cdA 350 858 = some (.invokestatic 192, 3, 326, 6, 0) from rfl) (by decide) rfl (by rw [E.1, E.2.1, E.2.2.1]; exact lw_neck G I (by omega) (by omega)) ⟨by rw [E.2.2.2]; exact (show 11 + 1 ≤ 2048 by omega), by rw [E.2.2.2]; exact (show 8 + (5 + 11) + 235 ≤ 84000 by omega), by rw [E.2.2.2]; exact (show ce + 1 ≤ 601024 by omega), by rw [E.2.2.2]; exact (show sl + 6 ≤ 7293034 by omega)⟩ (Nat.le_of_ble_eq_true rfl) (fun vv A s9 hA2 hq => ?_) (fun ee A s9 hA2 hq => ?_)
  rotate_left
  · obtain ⟨Is9, Fs9, e10, hv, hrs9, hps9⟩ := hq; cases hv
  obtain ⟨Is9, Fs9, e10, hv, hrs9, hps9⟩ := hq
  cases hv
  rw [← hA2 0 (by decide)]
  rw [← hA2 179 (by decide)]
  rw [← hA2 517 (by decide)]
  have Gs9 := fm_ts F Fs9 (by decide) (by decide)
  have JRLx_s9 : RLx s9 := RLx_fm Fs9 (by decide) jR
  have JFEQ_s9 : FEQ s9 := FEQ_fm Fs9 (by decide) jFEQ
  have ws9_0 : iI s9 0 = iI s 0 := fm_i Fs9 (by decide)
  have ws9_74 : iI s9 74 = iI s 74 := fm_i Fs9 (by decide)
  have ws9_9 : iI s9 9 = iI s 9 := fm_i Fs9 (by decide)
  have ws9_90 : iI s9 90 = iI s 90 := fm_i Fs9 (by decide)
  have ws9_12 : iI s9 12 = iI s 12 := fm_i Fs9 (by decide)
  have ws9_89 : iI s9 89 = iI s 89 := fm_i Fs9 (by decide)
  show WS k 861 [(0, .ref q1), (1, .ref (A 0)), (2, .ref (A 179)), (3, .ref (A 517)), (4, .int (Int32.ofInt i))] [.int (Int32.ofInt e10)] (Wd A dT s9) (ce + 1) (sl + 6)
  refine z_store X (lv' := [(5, .int (Int32.ofInt e10)), (0, .ref q1), (1, .ref (A 0)), (2, .ref (A 179)), (3, .ref (A 517)), (4, .int (Int32.ofInt i))]) (show cdA 350 861 = some (.istore 5, 2, 0, 0, 0) from rfl) (by decide) (fun _ h => h) ?_
  refine z_aload_n X (x := A 179) (show cdA 350 863 = some (.aload_n 2, 1, 0, 0, 0) from rfl) (List.Mem.tail _ (List.Mem.tail _ (List.Mem.tail _ (List.Mem.head _)))) ?_
  refine z_aload_n X (x := q1) (show cdA 350 864 = some (.aload_n 0, 1, 0, 0, 0) from rfl) (List.Mem.tail _ (List.Mem.head _)) ?_
  refine z_load X (x := i) (show cdA 350 865 = some (.iload 4, 2, 0, 0, 0) from rfl) (List.Mem.tail _ (List.Mem.tail _ (List.Mem.tail _ (List.Mem.tail _ (List.Mem.tail _ (List.Mem.head _)))))) ?_
  refine z_const X (show cdA 350 867 = some (.iconst 1, 1, 0, 0, 0) from rfl) ?_
  refine z_add X (show cdA 350 868 = some (.iadd, 1, 0, 0, 0) from rfl) ?_
  refine z_sld X S hL (show cdA 350 869 = some (.iaload, 1, 0, 0, 0) from rfl) (show 0 ≤ (i + 1) ∧ (i + 1) < (L : Int) by omega) ?_
  have sr11 : rng (sc xs (i + 1)) := sc_rng
  refine z_aload_n X (x := q1) (show cdA 350 870 = some (.aload_n 0, 1, 0, 0, 0) from rfl) (List.Mem.tail _ (List.Mem.head _)) ?_
  refine z_load X (x := i) (show cdA 350 871 = some (.iload 4, 2, 0, 0, 0) from rfl) (List.Mem.tail _ (List.Mem.tail _ (List.Mem.tail _ (List.Mem.tail _ (List.Mem.tail _ (List.Mem.head _)))))) ?_
  refine z_const X (show cdA 350 873 = some (.iconst 2, 1, 0, 0, 0) from rfl) ?_
  refine z_add X (show cdA 350 874 = some (.iadd, 1, 0, 0, 0) from rfl) ?_
  refine z_sld X S hL (show cdA 350 875 = some (.iaload, 1, 0, 0, 0) from rfl) (show 0 ≤ (i + 2) ∧ (i + 2) < (L : Int) by omega) ?_
  have sr12 : rng (sc xs (i + 2)) := sc_rng
  refine z_callV X 179 (rm := rmN 242) (As := [.int (Int32.ofInt (sc xs (i + 1))), .int (Int32.ofInt (sc xs (i + 2)))]) (st := []) (show cdA 350 876 = some (.invokevirtual 194, 3, 242, 0, 0) from rfl) rfl (by decide) rfl (by rw [E.1, E.2.1, E.2.2.1]; exact k_neck G Is9 (by first | exact ⟨sr11.1, sr11.2⟩ | omega) (by first | exact ⟨sr12.1, sr12.2⟩ | omega)) ⟨by rw [E.2.2.2]; exact (show 9 + 1 ≤ 2048 by omega), by rw [E.2.2.2]; exact (show 8 + (6 + 11) + 171 ≤ 84000 by omega), by rw [E.2.2.2]; exact (show (ce + 1) + 0 ≤ 601024 by omega), by rw [E.2.2.2]; exact (show (sl + 6) + 0 ≤ 7293034 by omega)⟩ (Nat.le_of_ble_eq_true rfl) (fun vv s13 hq => ?_) (fun ee s13 hq => ?_)
  rotate_left
  · obtain ⟨Is13, Fs13, e14, hv, hrs13, hps13⟩ := hq; cases hv
  obtain ⟨Is13, Fs13, e14, hv, hrs13, hps13⟩ := hq
  cases hv
  have Gs13 := fm_ts Gs9 Fs13 (by decide) (by decide)
  have JRLx_s13 : RLx s13 := RLx_fm Fs13 (by decide) JRLx_s9
  have JFEQ_s13 : FEQ s13 := FEQ_fm Fs13 (by decide) JFEQ_s9
  have ws13_0 : iI s13 0 = iI s9 0 := fm_i Fs13 (by decide)
  have ws13_74 : iI s13 74 = iI s9 74 := fm_i Fs13 (by decide)
  have ws13_9 : iI s13 9 = iI s9 9 := fm_i Fs13 (by decide)
  have ws13_90 : iI s13 90 = iI s9 90 := fm_i Fs13 (by decide)
  have ws13_12 : iI s13 12 = iI s9 12 := fm_i Fs13 (by decide)
  have ws13_89 : iI s13 89 = iI s9 89 := fm_i Fs13 (by decide)
  have wos13 : iO s13 = iO s9 := fm_o Fs13 (by decide)
  show WS k 879 [(5, .int (Int32.ofInt e10)), (0, .ref q1), (1, .ref (A 0)), (2, .ref (A 179)), (3, .ref (A 517)), (4, .int (Int32.ofInt i))] [.int (Int32.ofInt e14)] (Wd A dT s13) (ce + 1) (sl + 6)
  refine z_store X (lv' := [(6, .int (Int32.ofInt e14)), (5, .int (Int32.ofInt e10)), (0, .ref q1), (1, .ref (A 0)), (2, .ref (A 179)), (3, .ref (A 517)), (4, .int (Int32.ofInt i))]) (show cdA 350 879 = some (.istore 6, 2, 0, 0, 0) from rfl) (by decide) (fun _ h => h) ?_
  refine z_goto X (t := 1894) (show cdA 350 881 = some (.goto 1013, 3, 0, 0, 0) from rfl) (by decide) ?_
  refine w_widen (ce' := ce + 29) (sl' := sl + 222) (by omega) (by omega) ?_
  exact WS_lv (lv := [(0, .ref q1), (1, .ref (A 0)), (2, .ref (A 179)), (3, .ref (A 517)), (4, .int (Int32.ofInt i))]) (List.forall_mem_cons.mpr ⟨(List.Mem.tail _ (List.Mem.tail _ (List.Mem.head _))), (List.forall_mem_cons.mpr ⟨(List.Mem.tail _ (List.Mem.tail _ (List.Mem.tail _ (List.Mem.head _)))), (List.forall_mem_cons.mpr ⟨(List.Mem.tail _ (List.Mem.tail _ (List.Mem.tail _ (List.Mem.tail _ (List.Mem.head _))))), (List.forall_mem_cons.mpr ⟨(List.Mem.tail _ (List.Mem.tail _ (List.Mem.tail _ (List.Mem.tail _ (List.Mem.tail _ (List.Mem.head _)))))), (List.forall_mem_cons.mpr ⟨(List.Mem.tail _ (List.Mem.tail _ (List.Mem.tail _ (List.Mem.tail _ (List.Mem.tail _ (List.Mem.tail _ (List.Mem.head _))))))), (fun q h => absurd h List.not_mem_nil)⟩)⟩)⟩)⟩)⟩) (hk A _ Is13 JRLx_s13 JFEQ_s13 (by omega) (by omega) (by omega) (by omega))
theorem lc_15 (G : GX l s0 D tys a0 dT) (GR : RS0 s0) (SF : SF0 s0) (GT : TXs0 s0) (GW : TXw0 s0) {k : kx_T} (X : AX k 350 dT) (E : kL k = l ∧ kS0 k = s0 ∧ kD k = D ∧ kR k = room_1) {q1 L : Nat} {xs : Nat → Int32} (S : SX k q1 L xs) (hL : L ≤ 3072) (I : Bd s) (jR : RLx s) (jFEQ : FEQ s) (p1 : iI s 89 = 1) (p2 : iI s 12 ≤ 8) (p3 : iI s 0 = iI s 74) (p4 : iI s 9 = iI s 90) {i : Int} (hi : 0 ≤ i ∧ i + 6 ≤ (L : Int)) {ce sl : Nat} (hce : ce + 29 ≤ 601024) (hsl : sl + 222 ≤ 7293034) (hk : ∀ (A : Nat → Nat) (t : PS), Bd t → RLx t → FEQ t → iI t 89 = 1 → iI t 12 ≤ 8 → iI t 0 = iI t 74 → iI t 9 = iI t 90 → WS k 1894 [(0, .ref q1), (1, .ref (A 0)), (2, .ref (A 179)), (3, .ref (A 517)), (4, .int (Int32.ofInt i))] [] (Wd A dT t) (ce + 29) (sl + 222)) : WS k 884 [(0, .ref q1), (1, .ref (A 0)), (2, .ref (A 179)), (3, .ref (A 517)), (4, .int (Int32.ofInt i))] [] (Wd A dT s) ce sl := by
  have F : Fm [73] [1460] s s := fm_rf _ _ s
  have b1 : (0 : Int) ≤ iI s 0 ∧ iI s 0 ≤ 200 := I.1 0
  have b2 : (0 : Int) ≤ iI s 74 ∧ iI s 74 ≤ 200 := I.1 74
  have b3 : (0 : Int) ≤ iI s 9 ∧ iI s 9 ≤ 12 := I.1 9
  have b4 : (0 : Int) ≤ iI s 90 ∧ iI s 90 ≤ 12 := I.1 90
  have b5 : (0 : Int) ≤ iI s 12 ∧ iI s 12 ≤ 9 := I.1 12
  have b6 : (1 : Int) ≤ iI s 89 ∧ iI s 89 ≤ 8 := I.1 89
  refine z_aload_n X (x := A 0) (show cdA 350 884 = some (.aload_n 1, 1, 0, 0, 0) from rfl) (List.Mem.tail _ (List.Mem.head _)) ?_
  refine z_aload_n X (x := q1) (show cdA 350 885 = some (.aload_n 0, 1, 0, 0, 0) from rfl) (List.Mem.head _) ?_
  refine z_load X (x := i) (show cdA 350 886 = some (.iload 4, 2, 0, 0, 0) from rfl) (List.Mem.tail _ (List.Mem.tail _ (List.Mem.tail _ (List.Mem.tail _ (List.Mem.head _))))) ?_
  refine z_const X (show cdA 350 888 = some (.iconst 1, 1, 0, 0, 0) from rfl) ?_
  refine z_add X (show cdA 350 889 = some (.iadd, 1, 0, 0, 0) from rfl) ?_
  refine z_sld X S hL (show cdA 350 890 = some (.iaload, 1, 0, 0, 0) from rfl) (show 0 ≤ (i + 1) ∧ (i + 1) < (L : Int) by omega) ?_
  have sr7 : rng (sc xs (i + 1)) := sc_rng
  refine z_aload_n X (x := A 517) (show cdA 350 891 = some (.aload_n 3, 1, 0, 0, 0) from rfl) (List.Mem.tail _ (List.Mem.tail _ (List.Mem.tail _ (List.Mem.head _)))) ?_
  refine z_callL X (rm := rmN 327) (As := [.ref (A 0), .int (Int32.ofInt (sc xs (i + 1))), .ref (A 517)]) (st := []) (show cdA 350 892 = some (.invokestatic 195, 3, 327, 6, 0) from rfl) (by decide) rfl (by rw [E.1, E.2.1, E.2.2.1]; exact lw_shorts G I (by omega)) ⟨by rw [E.2.2.2]; exact (show 10 + 1 ≤ 2048 by omega), by rw [E.2.2.2]; exact (show 8 + (4 + 11) + 198 ≤ 84000 by omega), by rw [E.2.2.2]; exact (show ce + 1 ≤ 601024 by omega), by rw [E.2.2.2]; exact (show sl + 6 ≤ 7293034 by omega)⟩ (Nat.le_of_ble_eq_true rfl) (fun vv A s8 hA2 hq => ?_) (fun ee A s8 hA2 hq => ?_)
  rotate_left
  · obtain ⟨Is8, Fs8, e9, hv, hrs8, hps8⟩ := hq; cases hv
  obtain ⟨Is8, Fs8, e9, hv, hrs8, hps8⟩ := hq
  cases hv
  rw [← hA2 0 (by decide)]
  rw [← hA2 179 (by decide)]
  rw [← hA2 517 (by decide)]
  have Gs8 := fm_ts F Fs8 (by decide) (by decide)
  have JRLx_s8 : RLx s8 := RLx_fm Fs8 (by decide) jR
  have JFEQ_s8 : FEQ s8 := FEQ_fm Fs8 (by decide) jFEQ
  have ws8_0 : iI s8 0 = iI s 0 := fm_i Fs8 (by decide)
  have ws8_74 : iI s8 74 = iI s 74 := fm_i Fs8 (by decide)
  have ws8_9 : iI s8 9 = iI s 9 := fm_i Fs8 (by decide)
  have ws8_90 : iI s8 90 = iI s 90 := fm_i Fs8 (by decide)
  have ws8_12 : iI s8 12 = iI s 12 := fm_i Fs8 (by decide)
  have ws8_89 : iI s8 89 = iI s 89 := fm_i Fs8 (by decide)
  show WS k 895 [(0, .ref q1), (1, .ref (A 0)), (2, .ref (A 179)), (3, .ref (A 517)), (4, .int (Int32.ofInt i))] [.int (Int32.ofInt e9)] (Wd A dT s8) (ce + 1) (sl + 6)
  refine z_store X (lv' := [(5, .int (Int32.ofInt e9)), (0, .ref q1), (1, .ref (A 0)), (2, .ref (A 179)), (3, .ref (A 517)), (4, .int (Int32.ofInt i))]) (show cdA 350 895 = some (.istore 5, 2, 0, 0, 0) from rfl) (by decide) (fun _ h => h) ?_
  refine z_aload_n X (x := A 179) (show cdA 350 897 = some (.aload_n 2, 1, 0, 0, 0) from rfl) (List.Mem.tail _ (List.Mem.tail _ (List.Mem.tail _ (List.Mem.head _)))) ?_
  refine z_aload_n X (x := q1) (show cdA 350 898 = some (.aload_n 0, 1, 0, 0, 0) from rfl) (List.Mem.tail _ (List.Mem.head _)) ?_
  refine z_load X (x := i) (show cdA 350 899 = some (.iload 4, 2, 0, 0, 0) from rfl) (List.Mem.tail _ (List.Mem.tail _ (List.Mem.tail _ (List.Mem.tail _ (List.Mem.tail _ (List.Mem.head _)))))) ?_
  refine z_const X (show cdA 350 901 = some (.iconst 1, 1, 0, 0, 0) from rfl) ?_
  refine z_add X (show cdA 350 902 = some (.iadd, 1, 0, 0, 0) from rfl) ?_
  refine z_sld X S hL (show cdA 350 903 = some (.iaload, 1, 0, 0, 0) from rfl) (show 0 ≤ (i + 1) ∧ (i + 1) < (L : Int) by omega) ?_
  have sr10 : rng (sc xs (i + 1)) := sc_rng
  refine z_callV X 179 (rm := rmN 243) (As := [.int (Int32.ofInt (sc xs (i + 1)))]) (st := []) (show cdA 350 904 = some (.invokevirtual 197, 3, 243, 0, 0) from rfl) rfl (by decide) rfl (by rw [E.1, E.2.1, E.2.2.1]; exact k_shorts G Is8 (by first | exact ⟨sr10.1, sr10.2⟩ | omega)) ⟨by rw [E.2.2.2]; exact (show 7 + 1 ≤ 2048 by omega), by rw [E.2.2.2]; exact (show 8 + (7 + 11) + 122 ≤ 84000 by omega), by rw [E.2.2.2]; exact (show (ce + 1) + 0 ≤ 601024 by omega), by rw [E.2.2.2]; exact (show (sl + 6) + 0 ≤ 7293034 by omega)⟩ (Nat.le_of_ble_eq_true rfl) (fun vv s11 hq => ?_) (fun ee s11 hq => ?_)
  rotate_left
  · obtain ⟨Is11, Fs11, e12, hv, hrs11, hps11⟩ := hq; cases hv
  obtain ⟨Is11, Fs11, e12, hv, hrs11, hps11⟩ := hq
  cases hv
  have Gs11 := fm_ts Gs8 Fs11 (by decide) (by decide)
  have JRLx_s11 : RLx s11 := RLx_fm Fs11 (by decide) JRLx_s8
  have JFEQ_s11 : FEQ s11 := FEQ_fm Fs11 (by decide) JFEQ_s8
  have ws11_0 : iI s11 0 = iI s8 0 := fm_i Fs11 (by decide)
  have ws11_74 : iI s11 74 = iI s8 74 := fm_i Fs11 (by decide)
  have ws11_9 : iI s11 9 = iI s8 9 := fm_i Fs11 (by decide)
  have ws11_90 : iI s11 90 = iI s8 90 := fm_i Fs11 (by decide)
  have ws11_12 : iI s11 12 = iI s8 12 := fm_i Fs11 (by decide)
  have ws11_89 : iI s11 89 = iI s8 89 := fm_i Fs11 (by decide)
  have wos11 : iO s11 = iO s8 := fm_o Fs11 (by decide)
  show WS k 907 [(5, .int (Int32.ofInt e9)), (0, .ref q1), (1, .ref (A 0)), (2, .ref (A 179)), (3, .ref (A 517)), (4, .int (Int32.ofInt i))] [.int (Int32.ofInt e12)] (Wd A dT s11) (ce + 1) (sl + 6)
  refine z_store X (lv' := [(6, .int (Int32.ofInt e12)), (5, .int (Int32.ofInt e9)), (0, .ref q1), (1, .ref (A 0)), (2, .ref (A 179)), (3, .ref (A 517)), (4, .int (Int32.ofInt i))]) (show cdA 350 907 = some (.istore 6, 2, 0, 0, 0) from rfl) (by decide) (fun _ h => h) ?_
  refine z_goto X (t := 1894) (show cdA 350 909 = some (.goto 985, 3, 0, 0, 0) from rfl) (by decide) ?_
  refine w_widen (ce' := ce + 29) (sl' := sl + 222) (by omega) (by omega) ?_
  exact WS_lv (lv := [(0, .ref q1), (1, .ref (A 0)), (2, .ref (A 179)), (3, .ref (A 517)), (4, .int (Int32.ofInt i))]) (List.forall_mem_cons.mpr ⟨(List.Mem.tail _ (List.Mem.tail _ (List.Mem.head _))), (List.forall_mem_cons.mpr ⟨(List.Mem.tail _ (List.Mem.tail _ (List.Mem.tail _ (List.Mem.head _)))), (List.forall_mem_cons.mpr ⟨(List.Mem.tail _ (List.Mem.tail _ (List.Mem.tail _ (List.Mem.tail _ (List.Mem.head _))))), (List.forall_mem_cons.mpr ⟨(List.Mem.tail _ (List.Mem.tail _ (List.Mem.tail _ (List.Mem.tail _ (List.Mem.tail _ (List.Mem.head _)))))), (List.forall_mem_cons.mpr ⟨(List.Mem.tail _ (List.Mem.tail _ (List.Mem.tail _ (List.Mem.tail _ (List.Mem.tail _ (List.Mem.tail _ (List.Mem.head _))))))), (fun q h => absurd h List.not_mem_nil)⟩)⟩)⟩)⟩)⟩) (hk A _ Is11 JRLx_s11 JFEQ_s11 (by omega) (by omega) (by omega) (by omega))
theorem lc_16 (G : GX l s0 D tys a0 dT) (GR : RS0 s0) (SF : SF0 s0) (GT : TXs0 s0) (GW : TXw0 s0) {k : kx_T} (X : AX k 350 dT) (E : kL k = l ∧ kS0 k = s0 ∧ kD k = D ∧ kR k = room_1) {q1 L : Nat} {xs : Nat → Int32} (S : SX k q1 L xs) (hL : L ≤ 3072) (I : Bd s) (jR : RLx s) (jFEQ : FEQ s) (p1 : iI s 89 = 1) (p2 : iI s 12 ≤ 8) (p3 : iI s 0 = iI s 74) (p4 : iI s 9 = iI s 90) {i : Int} (hi : 0 ≤ i ∧ i + 6 ≤ (L : Int)) {ce sl : Nat} (hce : ce + 29 ≤ 601024) (hsl : sl + 222 ≤ 7293034) (hk : ∀ (A : Nat → Nat) (t : PS), Bd t → RLx t → FEQ t → iI t 89 = 1 → iI t 12 ≤ 8 → iI t 0 = iI t 74 → iI t 9 = iI t 90 → WS k 1894 [(0, .ref q1), (1, .ref (A 0)), (2, .ref (A 179)), (3, .ref (A 517)), (4, .int (Int32.ofInt i))] [] (Wd A dT t) (ce + 29) (sl + 222)) : WS k 912 [(0, .ref q1), (1, .ref (A 0)), (2, .ref (A 179)), (3, .ref (A 517)), (4, .int (Int32.ofInt i))] [] (Wd A dT s) ce sl := by
  have F : Fm [21, 73, 95] [1460] s s := fm_rf _ _ s
  have b1 : (0 : Int) ≤ iI s 0 ∧ iI s 0 ≤ 200 := I.1 0
  have b2 : (0 : Int) ≤ iI s 74 ∧ iI s 74 ≤ 200 := I.1 74
  have b3 : (0 : Int) ≤ iI s 9 ∧ iI s 9 ≤ 12 := I.1 9
  have b4 : (0 : Int) ≤ iI s 90 ∧ iI s 90 ≤ 12 := I.1 90
  have b5 : (0 : Int) ≤ iI s 12 ∧ iI s 12 ≤ 9 := I.1 12
  have b6 : (1 : Int) ≤ iI s 89 ∧ iI s 89 ≤ 8 := I.1 89
  refine z_aload_n X (x := A 0) (show cdA 350 912 = some (.aload_n 1, 1, 0, 0, 0) from rfl) (List.Mem.tail _ (List.Mem.head _)) ?_
  refine z_aload_n X (x := q1) (show cdA 350 913 = some (.aload_n 0, 1, 0, 0, 0) from rfl) (List.Mem.head _) ?_
  refine z_load X (x := i) (show cdA 350 914 = some (.iload 4, 2, 0, 0, 0) from rfl) (List.Mem.tail _ (List.Mem.tail _ (List.Mem.tail _ (List.Mem.tail _ (List.Mem.head _))))) ?_
  refine z_const X (show cdA 350 916 = some (.iconst 1, 1, 0, 0, 0) from rfl) ?_
  refine z_add X (show cdA 350 917 = some (.iadd, 1, 0, 0, 0) from rfl) ?_
  refine z_sld X S hL (show cdA 350 918 = some (.iaload, 1, 0, 0, 0) from rfl) (show 0 ≤ (i + 1) ∧ (i + 1) < (L : Int) by omega) ?_
  have sr7 : rng (sc xs (i + 1)) := sc_rng
  refine z_aload_n X (x := A 517) (show cdA 350 919 = some (.aload_n 3, 1, 0, 0, 0) from rfl) (List.Mem.tail _ (List.Mem.tail _ (List.Mem.tail _ (List.Mem.head _)))) ?_
  refine z_callL X (rm := rmN 328) (As := [.ref (A 0), .int (Int32.ofInt (sc xs (i + 1))), .ref (A 517)]) (st := []) (show cdA 350 920 = some (.invokestatic 198, 3, 328, 6, 0) from rfl) (by decide) rfl (by rw [E.1, E.2.1, E.2.2.1]; exact lw_length G I (by omega)) ⟨by rw [E.2.2.2]; exact (show 8 + 1 ≤ 2048 by omega), by rw [E.2.2.2]; exact (show 8 + (4 + 11) + 145 ≤ 84000 by omega), by rw [E.2.2.2]; exact (show ce + 1 ≤ 601024 by omega), by rw [E.2.2.2]; exact (show sl + 6 ≤ 7293034 by omega)⟩ (Nat.le_of_ble_eq_true rfl) (fun vv A s8 hA2 hq => ?_) (fun ee A s8 hA2 hq => ?_)
  rotate_left
  · obtain ⟨Is8, Fs8, e9, hv, hrs8, hps8⟩ := hq; cases hv
  obtain ⟨Is8, Fs8, e9, hv, hrs8, hps8⟩ := hq
  cases hv
  rw [← hA2 0 (by decide)]
  rw [← hA2 179 (by decide)]
  rw [← hA2 517 (by decide)]
  have Gs8 := fm_ts F Fs8 (by decide) (by decide)
  have JRLx_s8 : RLx s8 := RLx_fm Fs8 (by decide) jR
  have JFEQ_s8 : FEQ s8 := FEQ_fm Fs8 (by decide) jFEQ
  have ws8_0 : iI s8 0 = iI s 0 := fm_i Fs8 (by decide)
  have ws8_74 : iI s8 74 = iI s 74 := fm_i Fs8 (by decide)
  have ws8_9 : iI s8 9 = iI s 9 := fm_i Fs8 (by decide)
  have ws8_90 : iI s8 90 = iI s 90 := fm_i Fs8 (by decide)
  have ws8_12 : iI s8 12 = iI s 12 := fm_i Fs8 (by decide)
  have ws8_89 : iI s8 89 = iI s 89 := fm_i Fs8 (by decide)
  show WS k 923 [(0, .ref q1), (1, .ref (A 0)), (2, .ref (A 179)), (3, .ref (A 517)), (4, .int (Int32.ofInt i))] [.int (Int32.ofInt e9)] (Wd A dT s8) (ce + 1) (sl + 6)
  refine z_store X (lv' := [(5, .int (Int32.ofInt e9)), (0, .ref q1), (1, .ref (A 0)), (2, .ref (A 179)), (3, .ref (A 517)), (4, .int (Int32.ofInt i))]) (show cdA 350 923 = some (.istore 5, 2, 0, 0, 0) from rfl) (by decide) (fun _ h => h) ?_
  refine z_aload_n X (x := A 179) (show cdA 350 925 = some (.aload_n 2, 1, 0, 0, 0) from rfl) (List.Mem.tail _ (List.Mem.tail _ (List.Mem.tail _ (List.Mem.head _)))) ?_
  refine z_aload_n X (x := q1) (show cdA 350 926 = some (.aload_n 0, 1, 0, 0, 0) from rfl) (List.Mem.tail _ (List.Mem.head _)) ?_
  refine z_load X (x := i) (show cdA 350 927 = some (.iload 4, 2, 0, 0, 0) from rfl) (List.Mem.tail _ (List.Mem.tail _ (List.Mem.tail _ (List.Mem.tail _ (List.Mem.tail _ (List.Mem.head _)))))) ?_
  refine z_const X (show cdA 350 929 = some (.iconst 1, 1, 0, 0, 0) from rfl) ?_
  refine z_add X (show cdA 350 930 = some (.iadd, 1, 0, 0, 0) from rfl) ?_
  refine z_sld X S hL (show cdA 350 931 = some (.iaload, 1, 0, 0, 0) from rfl) (show 0 ≤ (i + 1) ∧ (i + 1) < (L : Int) by omega) ?_
  have sr10 : rng (sc xs (i + 1)) := sc_rng
  refine z_callV X 179 (rm := rmN 244) (As := [.int (Int32.ofInt (sc xs (i + 1)))]) (st := []) (show cdA 350 932 = some (.invokevirtual 200, 3, 244, 0, 0) from rfl) rfl (by decide) rfl (by rw [E.1, E.2.1, E.2.2.1]; exact k_length G Is8 (by first | exact ⟨sr10.1, sr10.2⟩ | omega)) ⟨by rw [E.2.2.2]; exact (show 7 + 1 ≤ 2048 by omega), by rw [E.2.2.2]; exact (show 8 + (3 + 11) + 122 ≤ 84000 by omega), by rw [E.2.2.2]; exact (show (ce + 1) + 0 ≤ 601024 by omega), by rw [E.2.2.2]; exact (show (sl + 6) + 0 ≤ 7293034 by omega)⟩ (Nat.le_of_ble_eq_true rfl) (fun vv s11 hq => ?_) (fun ee s11 hq => ?_)
  rotate_left
  · obtain ⟨Is11, Fs11, e12, hv, hrs11, hps11⟩ := hq; cases hv
  obtain ⟨Is11, Fs11, e12, hv, hrs11, hps11⟩ := hq
  cases hv
  have Gs11 := fm_ts Gs8 Fs11 (by decide) (by decide)
  have JRLx_s11 : RLx s11 := RLx_fm Fs11 (by decide) JRLx_s8
  have JFEQ_s11 : FEQ s11 := FEQ_fm Fs11 (by decide) JFEQ_s8
  have ws11_0 : iI s11 0 = iI s8 0 := fm_i Fs11 (by decide)
  have ws11_74 : iI s11 74 = iI s8 74 := fm_i Fs11 (by decide)
  have ws11_9 : iI s11 9 = iI s8 9 := fm_i Fs11 (by decide)
  have ws11_90 : iI s11 90 = iI s8 90 := fm_i Fs11 (by decide)
  have ws11_12 : iI s11 12 = iI s8 12 := fm_i Fs11 (by decide)
  have ws11_89 : iI s11 89 = iI s8 89 := fm_i Fs11 (by decide)
  have wos11 : iO s11 = iO s8 := fm_o Fs11 (by decide)
  show WS k 935 [(5, .int (Int32.ofInt e9)), (0, .ref q1), (1, .ref (A 0)), (2, .ref (A 179)), (3, .ref (A 517)), (4, .int (Int32.ofInt i))] [.int (Int32.ofInt e12)] (Wd A dT s11) (ce + 1) (sl + 6)
  refine z_store X (lv' := [(6, .int (Int32.ofInt e12)), (5, .int (Int32.ofInt e9)), (0, .ref q1), (1, .ref (A 0)), (2, .ref (A 179)), (3, .ref (A 517)), (4, .int (Int32.ofInt i))]) (show cdA 350 935 = some (.istore 6, 2, 0, 0, 0) from rfl) (by decide) (fun _ h => h) ?_
  refine z_goto X (t := 1894) (show cdA 350 937 = some (.goto 957, 3, 0, 0, 0) from rfl) (by decide) ?_
  refine w_widen (ce' := ce + 29) (sl' := sl + 222) (by omega) (by omega) ?_
  exact WS_lv (lv := [(0, .ref q1), (1, .ref (A 0)), (2, .ref (A 179)), (3, .ref (A 517)), (4, .int (Int32.ofInt i))]) (List.forall_mem_cons.mpr ⟨(List.Mem.tail _ (List.Mem.tail _ (List.Mem.head _))), (List.forall_mem_cons.mpr ⟨(List.Mem.tail _ (List.Mem.tail _ (List.Mem.tail _ (List.Mem.head _)))), (List.forall_mem_cons.mpr ⟨(List.Mem.tail _ (List.Mem.tail _ (List.Mem.tail _ (List.Mem.tail _ (List.Mem.head _))))), (List.forall_mem_cons.mpr ⟨(List.Mem.tail _ (List.Mem.tail _ (List.Mem.tail _ (List.Mem.tail _ (List.Mem.tail _ (List.Mem.head _)))))), (List.forall_mem_cons.mpr ⟨(List.Mem.tail _ (List.Mem.tail _ (List.Mem.tail _ (List.Mem.tail _ (List.Mem.tail _ (List.Mem.tail _ (List.Mem.head _))))))), (fun q h => absurd h List.not_mem_nil)⟩)⟩)⟩)⟩)⟩) (hk A _ Is11 JRLx_s11 JFEQ_s11 (by omega) (by omega) (by omega) (by omega))
theorem lc_17 (G : GX l s0 D tys a0 dT) (GR : RS0 s0) (SF : SF0 s0) (GT : TXs0 s0) (GW : TXw0 s0) {k : kx_T} (X : AX k 350 dT) (E : kL k = l ∧ kS0 k = s0 ∧ kD k = D ∧ kR k = room_1) {q1 L : Nat} {xs : Nat → Int32} (S : SX k q1 L xs) (hL : L ≤ 3072) (I : Bd s) (jR : RLx s) (jFEQ : FEQ s) (p1 : iI s 89 = 1) (p2 : iI s 12 ≤ 8) (p3 : iI s 0 = iI s 74) (p4 : iI s 9 = iI s 90) {i : Int} (hi : 0 ≤ i ∧ i + 6 ≤ (L : Int)) {ce sl : Nat} (hce : ce + 29 ≤ 601024) (hsl : sl + 222 ≤ 7293034) (hk : ∀ (A : Nat → Nat) (t : PS), Bd t → RLx t → FEQ t → iI t 89 = 1 → iI t 12 ≤ 8 → iI t 0 = iI t 74 → iI t 9 = iI t 90 → WS k 1894 [(0, .ref q1), (1, .ref (A 0)), (2, .ref (A 179)), (3, .ref (A 517)), (4, .int (Int32.ofInt i))] [] (Wd A dT t) (ce + 29) (sl + 222)) : WS k 940 [(0, .ref q1), (1, .ref (A 0)), (2, .ref (A 179)), (3, .ref (A 517)), (4, .int (Int32.ofInt i))] [] (Wd A dT s) ce sl := by
  have F : Fm [73] [1460, 202, 204, 205, 206, 207, 208, 209, 210, 211, 212, 213, 214, 215, 216, 217, 218, 219, 220, 221, 222, 223, 224, 225, 226, 227, 203] s s := fm_rf _ _ s
  have b1 : (0 : Int) ≤ iI s 0 ∧ iI s 0 ≤ 200 := I.1 0
  have b2 : (0 : Int) ≤ iI s 74 ∧ iI s 74 ≤ 200 := I.1 74
  have b3 : (0 : Int) ≤ iI s 9 ∧ iI s 9 ≤ 12 := I.1 9
  have b4 : (0 : Int) ≤ iI s 90 ∧ iI s 90 ≤ 12 := I.1 90
  have b5 : (0 : Int) ≤ iI s 12 ∧ iI s 12 ≤ 9 := I.1 12
  have b6 : (1 : Int) ≤ iI s 89 ∧ iI s 89 ≤ 8 := I.1 89
  refine z_aload_n X (x := A 0) (show cdA 350 940 = some (.aload_n 1, 1, 0, 0, 0) from rfl) (List.Mem.tail _ (List.Mem.head _)) ?_
  refine z_aload_n X (x := q1) (show cdA 350 941 = some (.aload_n 0, 1, 0, 0, 0) from rfl) (List.Mem.head _) ?_
  refine z_load X (x := i) (show cdA 350 942 = some (.iload 4, 2, 0, 0, 0) from rfl) (List.Mem.tail _ (List.Mem.tail _ (List.Mem.tail _ (List.Mem.tail _ (List.Mem.head _))))) ?_
  refine z_const X (show cdA 350 944 = some (.iconst 1, 1, 0, 0, 0) from rfl) ?_
  refine z_add X (show cdA 350 945 = some (.iadd, 1, 0, 0, 0) from rfl) ?_
  refine z_sld X S hL (show cdA 350 946 = some (.iaload, 1, 0, 0, 0) from rfl) (show 0 ≤ (i + 1) ∧ (i + 1) < (L : Int) by omega) ?_
  have sr7 : rng (sc xs (i + 1)) := sc_rng
  refine z_aload_n X (x := A 517) (show cdA 350 947 = some (.aload_n 3, 1, 0, 0, 0) from rfl) (List.Mem.tail _ (List.Mem.tail _ (List.Mem.tail _ (List.Mem.head _)))) ?_
  refine z_callL X (rm := rmN 329) (As := [.ref (A 0), .int (Int32.ofInt (sc xs (i + 1))), .ref (A 517)]) (st := []) (show cdA 350 948 = some (.invokestatic 201, 3, 329, 6, 0) from rfl) (by decide) rfl (by rw [E.1, E.2.1, E.2.2.1]; exact lw_edge G I (by omega)) ⟨by rw [E.2.2.2]; exact (show 9 + 1 ≤ 2048 by omega), by rw [E.2.2.2]; exact (show 8 + (4 + 11) + 173 ≤ 84000 by omega), by rw [E.2.2.2]; exact (show ce + 1 ≤ 601024 by omega), by rw [E.2.2.2]; exact (show sl + 6 ≤ 7293034 by omega)⟩ (Nat.le_of_ble_eq_true rfl) (fun vv A s8 hA2 hq => ?_) (fun ee A s8 hA2 hq => ?_)
  rotate_left
  · obtain ⟨Is8, Fs8, e9, hv, hrs8, hps8⟩ := hq; cases hv
  obtain ⟨Is8, Fs8, e9, hv, hrs8, hps8⟩ := hq
  cases hv
  rw [← hA2 0 (by decide)]
  rw [← hA2 179 (by decide)]
  rw [← hA2 517 (by decide)]
  have Gs8 := fm_ts F Fs8 (by decide) (by decide)
  have JRLx_s8 : RLx s8 := RLx_fm Fs8 (by decide) jR
  have JFEQ_s8 : FEQ s8 := FEQ_fm Fs8 (by decide) jFEQ
  have ws8_0 : iI s8 0 = iI s 0 := fm_i Fs8 (by decide)
  have ws8_74 : iI s8 74 = iI s 74 := fm_i Fs8 (by decide)
  have ws8_9 : iI s8 9 = iI s 9 := fm_i Fs8 (by decide)
  have ws8_90 : iI s8 90 = iI s 90 := fm_i Fs8 (by decide)
  have ws8_12 : iI s8 12 = iI s 12 := fm_i Fs8 (by decide)
  have ws8_89 : iI s8 89 = iI s 89 := fm_i Fs8 (by decide)
  show WS k 951 [(0, .ref q1), (1, .ref (A 0)), (2, .ref (A 179)), (3, .ref (A 517)), (4, .int (Int32.ofInt i))] [.int (Int32.ofInt e9)] (Wd A dT s8) (ce + 1) (sl + 6)
  refine z_store X (lv' := [(5, .int (Int32.ofInt e9)), (0, .ref q1), (1, .ref (A 0)), (2, .ref (A 179)), (3, .ref (A 517)), (4, .int (Int32.ofInt i))]) (show cdA 350 951 = some (.istore 5, 2, 0, 0, 0) from rfl) (by decide) (fun _ h => h) ?_
  refine z_aload_n X (x := A 179) (show cdA 350 953 = some (.aload_n 2, 1, 0, 0, 0) from rfl) (List.Mem.tail _ (List.Mem.tail _ (List.Mem.tail _ (List.Mem.head _)))) ?_
  refine z_aload_n X (x := q1) (show cdA 350 954 = some (.aload_n 0, 1, 0, 0, 0) from rfl) (List.Mem.tail _ (List.Mem.head _)) ?_
  refine z_load X (x := i) (show cdA 350 955 = some (.iload 4, 2, 0, 0, 0) from rfl) (List.Mem.tail _ (List.Mem.tail _ (List.Mem.tail _ (List.Mem.tail _ (List.Mem.tail _ (List.Mem.head _)))))) ?_
  refine z_const X (show cdA 350 957 = some (.iconst 1, 1, 0, 0, 0) from rfl) ?_
  refine z_add X (show cdA 350 958 = some (.iadd, 1, 0, 0, 0) from rfl) ?_
  refine z_sld X S hL (show cdA 350 959 = some (.iaload, 1, 0, 0, 0) from rfl) (show 0 ≤ (i + 1) ∧ (i + 1) < (L : Int) by omega) ?_
  have sr10 : rng (sc xs (i + 1)) := sc_rng
  refine z_callV X 179 (rm := rmN 246) (As := [.int (Int32.ofInt (sc xs (i + 1)))]) (st := []) (show cdA 350 960 = some (.invokevirtual 203, 3, 246, 0, 0) from rfl) rfl (by decide) rfl (by rw [E.1, E.2.1, E.2.2.1]; exact k_edge G Is8 JRLx_s8 (by first | exact ⟨sr10.1, sr10.2⟩ | omega)) ⟨by rw [E.2.2.2]; exact (show 11 + 1 ≤ 2048 by omega), by rw [E.2.2.2]; exact (show 8 + (6 + 11) + 212 ≤ 84000 by omega), by rw [E.2.2.2]; exact (show (ce + 1) + 0 ≤ 601024 by omega), by rw [E.2.2.2]; exact (show (sl + 6) + 0 ≤ 7293034 by omega)⟩ (Nat.le_of_ble_eq_true rfl) (fun vv s11 hq => ?_) (fun ee s11 hq => ?_)
  rotate_left
  · obtain ⟨Is11, Fs11, JRLx_s11, e12, hv, hrs11, hps11⟩ := hq; cases hv
  obtain ⟨Is11, Fs11, JRLx_s11, e12, hv, hrs11, hps11⟩ := hq
  cases hv
  have Gs11 := fm_ts Gs8 Fs11 (by decide) (by decide)
  have JRLx_s11 : RLx s11 := RLx_fm Fs11 (by decide) JRLx_s8
  have JFEQ_s11 : FEQ s11 := FEQ_fm Fs11 (by decide) JFEQ_s8
  have ws11_0 : iI s11 0 = iI s8 0 := fm_i Fs11 (by decide)
  have ws11_74 : iI s11 74 = iI s8 74 := fm_i Fs11 (by decide)
  have ws11_9 : iI s11 9 = iI s8 9 := fm_i Fs11 (by decide)
  have ws11_90 : iI s11 90 = iI s8 90 := fm_i Fs11 (by decide)
  have ws11_12 : iI s11 12 = iI s8 12 := fm_i Fs11 (by decide)
  have ws11_89 : iI s11 89 = iI s8 89 := fm_i Fs11 (by decide)
  have wos11 : iO s11 = iO s8 := fm_o Fs11 (by decide)
  show WS k 963 [(5, .int (Int32.ofInt e9)), (0, .ref q1), (1, .ref (A 0)), (2, .ref (A 179)), (3, .ref (A 517)), (4, .int (Int32.ofInt i))] [.int (Int32.ofInt e12)] (Wd A dT s11) (ce + 1) (sl + 6)
  refine z_store X (lv' := [(6, .int (Int32.ofInt e12)), (5, .int (Int32.ofInt e9)), (0, .ref q1), (1, .ref (A 0)), (2, .ref (A 179)), (3, .ref (A 517)), (4, .int (Int32.ofInt i))]) (show cdA 350 963 = some (.istore 6, 2, 0, 0, 0) from rfl) (by decide) (fun _ h => h) ?_
  refine z_goto X (t := 1894) (show cdA 350 965 = some (.goto 929, 3, 0, 0, 0) from rfl) (by decide) ?_
  refine w_widen (ce' := ce + 29) (sl' := sl + 222) (by omega) (by omega) ?_
  exact WS_lv (lv := [(0, .ref q1), (1, .ref (A 0)), (2, .ref (A 179)), (3, .ref (A 517)), (4, .int (Int32.ofInt i))]) (List.forall_mem_cons.mpr ⟨(List.Mem.tail _ (List.Mem.tail _ (List.Mem.head _))), (List.forall_mem_cons.mpr ⟨(List.Mem.tail _ (List.Mem.tail _ (List.Mem.tail _ (List.Mem.head _)))), (List.forall_mem_cons.mpr ⟨(List.Mem.tail _ (List.Mem.tail _ (List.Mem.tail _ (List.Mem.tail _ (List.Mem.head _))))), (List.forall_mem_cons.mpr ⟨(List.Mem.tail _ (List.Mem.tail _ (List.Mem.tail _ (List.Mem.tail _ (List.Mem.tail _ (List.Mem.head _)))))), (List.forall_mem_cons.mpr ⟨(List.Mem.tail _ (List.Mem.tail _ (List.Mem.tail _ (List.Mem.tail _ (List.Mem.tail _ (List.Mem.tail _ (List.Mem.head _))))))), (fun q h => absurd h List.not_mem_nil)⟩)⟩)⟩)⟩)⟩) (hk A _ Is11 JRLx_s11 JFEQ_s11 (by omega) (by omega) (by omega) (by omega))
theorem lc_18 (G : GX l s0 D tys a0 dT) (GR : RS0 s0) (SF : SF0 s0) (GT : TXs0 s0) (GW : TXw0 s0) {k : kx_T} (X : AX k 350 dT) (E : kL k = l ∧ kS0 k = s0 ∧ kD k = D ∧ kR k = room_1) {q1 L : Nat} {xs : Nat → Int32} (S : SX k q1 L xs) (hL : L ≤ 3072) (I : Bd s) (jR : RLx s) (jFEQ : FEQ s) (p1 : iI s 89 = 1) (p2 : iI s 12 ≤ 8) (p3 : iI s 0 = iI s 74) (p4 : iI s 9 = iI s 90) {i : Int} (hi : 0 ≤ i ∧ i + 6 ≤ (L : Int)) {ce sl : Nat} (hce : ce + 29 ≤ 601024) (hsl : sl + 222 ≤ 7293034) (hk : ∀ (A : Nat → Nat) (t : PS), Bd t → RLx t → FEQ t → iI t 89 = 1 → iI t 12 ≤ 8 → iI t 0 = iI t 74 → iI t 9 = iI t 90 → WS k 1894 [(0, .ref q1), (1, .ref (A 0)), (2, .ref (A 179)), (3, .ref (A 517)), (4, .int (Int32.ofInt i))] [] (Wd A dT t) (ce + 29) (sl + 222)) : WS k 968 [(0, .ref q1), (1, .ref (A 0)), (2, .ref (A 179)), (3, .ref (A 517)), (4, .int (Int32.ofInt i))] [] (Wd A dT s) ce sl := by
  have F : Fm [22, 23, 24, 73, 77, 75, 78, 79, 80, 81] [33, 26, 27, 28, 29, 30, 31, 32, 20, 202, 204, 205, 206, 207, 208, 209, 210, 211, 212, 213, 214, 215, 216, 217, 218, 219, 220, 221, 222, 223, 224, 225, 226, 227, 203, 161, 230, 231, 232] s s := fm_rf _ _ s
  have b1 : (0 : Int) ≤ iI s 0 ∧ iI s 0 ≤ 200 := I.1 0
  have b2 : (0 : Int) ≤ iI s 74 ∧ iI s 74 ≤ 200 := I.1 74
  have b3 : (0 : Int) ≤ iI s 9 ∧ iI s 9 ≤ 12 := I.1 9
  have b4 : (0 : Int) ≤ iI s 90 ∧ iI s 90 ≤ 12 := I.1 90
  have b5 : (0 : Int) ≤ iI s 12 ∧ iI s 12 ≤ 9 := I.1 12
  have b6 : (1 : Int) ≤ iI s 89 ∧ iI s 89 ≤ 8 := I.1 89
  refine z_aload_n X (x := A 0) (show cdA 350 968 = some (.aload_n 1, 1, 0, 0, 0) from rfl) (List.Mem.tail _ (List.Mem.head _)) ?_
  refine z_callV X 0 (rm := rmN 153) (As := []) (st := []) (show cdA 350 969 = some (.invokevirtual 204, 3, 153, 0, 0) from rfl) rfl (by decide) rfl (by rw [E.1, E.2.1, E.2.2.1]; exact cs_holds G I ) ⟨by rw [E.2.2.2]; exact (show 11 + 1 ≤ 2048 by omega), by rw [E.2.2.2]; exact (show 8 + (2 + 11) + 224 ≤ 84000 by omega), by rw [E.2.2.2]; exact (show ce + 0 ≤ 601024 by omega), by rw [E.2.2.2]; exact (show sl + 0 ≤ 7293034 by omega)⟩ (Nat.le_of_ble_eq_true rfl) (fun vv s7 hq => ?_) (fun ee s7 hq => ?_)
  rotate_left
  · obtain ⟨Is7, Fs7, e8, hv, hrs7, hps7⟩ := hq; cases hv
  obtain ⟨Is7, Fs7, e8, hv, hrs7, hps7⟩ := hq
  cases hv
  have Gs7 := fm_ts F Fs7 (by decide) (by decide)
  have JRLx_s7 : RLx s7 := RLx_fm Fs7 (by decide) jR
  have JFEQ_s7 : FEQ s7 := FEQ_fm Fs7 (by decide) jFEQ
  have ws7_0 : iI s7 0 = iI s 0 := fm_i Fs7 (by decide)
  have ws7_74 : iI s7 74 = iI s 74 := fm_i Fs7 (by decide)
  have ws7_9 : iI s7 9 = iI s 9 := fm_i Fs7 (by decide)
  have ws7_90 : iI s7 90 = iI s 90 := fm_i Fs7 (by decide)
  have ws7_12 : iI s7 12 = iI s 12 := fm_i Fs7 (by decide)
  have ws7_89 : iI s7 89 = iI s 89 := fm_i Fs7 (by decide)
  have wos7 : iO s7 = iO s := fm_o Fs7 (by decide)
  show WS k 972 [(0, .ref q1), (1, .ref (A 0)), (2, .ref (A 179)), (3, .ref (A 517)), (4, .int (Int32.ofInt i))] [.int (Int32.ofInt e8)] (Wd A dT s7) ce sl
  refine w_pop X.1 (ax_d X (show cdA 350 972 = some (.pop, 1, 0, 0, 0) from rfl)) rfl ?_
  refine z_aload_n X (x := A 179) (show cdA 350 973 = some (.aload_n 2, 1, 0, 0, 0) from rfl) (List.Mem.tail _ (List.Mem.tail _ (List.Mem.head _))) ?_
  refine z_callV X 179 (rm := rmN 247) (As := []) (st := []) (show cdA 350 974 = some (.invokevirtual 208, 3, 247, 0, 0) from rfl) rfl (by decide) rfl (by rw [E.1, E.2.1, E.2.2.1]; exact k_holds G Is7 JRLx_s7 ) ⟨by rw [E.2.2.2]; exact (show 39 + 1 ≤ 2048 by first | (clear hps7; omega) | omega), by rw [E.2.2.2]; exact (show 8 + (2 + 11) + 1622 ≤ 84000 by first | (clear hps7; omega) | omega), by rw [E.2.2.2]; exact (show ce + 0 ≤ 601024 by first | (clear hps7; omega) | omega), by rw [E.2.2.2]; exact (show sl + 0 ≤ 7293034 by first | (clear hps7; omega) | omega)⟩ (Nat.le_of_ble_eq_true rfl) (fun vv s9 hq => ?_) (fun ee s9 hq => ?_)
  rotate_left
  · obtain ⟨Is9, Fs9, JRLx_s9, e10, hv, hrs9, hps9⟩ := hq; cases hv
  obtain ⟨Is9, Fs9, JRLx_s9, e10, hv, hrs9, hps9⟩ := hq
  cases hv
  have Gs9 := fm_ts Gs7 Fs9 (by decide) (by decide)
  have JRLx_s9 : RLx s9 := RLx_fm Fs9 (by decide) JRLx_s7
  have JFEQ_s9 : FEQ s9 := FEQ_fm Fs9 (by decide) JFEQ_s7
  have ws9_0 : iI s9 0 = iI s7 0 := fm_i Fs9 (by decide)
  have ws9_74 : iI s9 74 = iI s7 74 := fm_i Fs9 (by decide)
  have ws9_9 : iI s9 9 = iI s7 9 := fm_i Fs9 (by decide)
  have ws9_90 : iI s9 90 = iI s7 90 := fm_i Fs9 (by decide)
  have ws9_12 : iI s9 12 = iI s7 12 := fm_i Fs9 (by decide)
  have ws9_89 : iI s9 89 = iI s7 89 := fm_i Fs9 (by decide)
  have wos9 : iO s9 = iO s7 := fm_o Fs9 (by decide)
  show WS k 977 [(0, .ref q1), (1, .ref (A 0)), (2, .ref (A 179)), (3, .ref (A 517)), (4, .int (Int32.ofInt i))] [.int (Int32.ofInt e10)] (Wd A dT s9) ce sl
  refine w_pop X.1 (ax_d X (show cdA 350 977 = some (.pop, 1, 0, 0, 0) from rfl)) rfl ?_
  refine z_goto X (t := 1894) (show cdA 350 978 = some (.goto 916, 3, 0, 0, 0) from rfl) (by decide) ?_
  refine w_widen (ce' := ce + 29) (sl' := sl + 222) (by first | (clear hps7; omega) | omega) (by first | (clear hps7; omega) | omega) ?_
  exact WS_lv (lv := [(0, .ref q1), (1, .ref (A 0)), (2, .ref (A 179)), (3, .ref (A 517)), (4, .int (Int32.ofInt i))]) (List.forall_mem_cons.mpr ⟨(List.Mem.head _), (List.forall_mem_cons.mpr ⟨(List.Mem.tail _ (List.Mem.head _)), (List.forall_mem_cons.mpr ⟨(List.Mem.tail _ (List.Mem.tail _ (List.Mem.head _))), (List.forall_mem_cons.mpr ⟨(List.Mem.tail _ (List.Mem.tail _ (List.Mem.tail _ (List.Mem.head _)))), (List.forall_mem_cons.mpr ⟨(List.Mem.tail _ (List.Mem.tail _ (List.Mem.tail _ (List.Mem.tail _ (List.Mem.head _))))), (fun q h => absurd h List.not_mem_nil)⟩)⟩)⟩)⟩)⟩) (hk A _ Is9 JRLx_s9 JFEQ_s9 (by first | (clear hps7; omega) | omega) (by first | (clear hps7; omega) | omega) (by first | (clear hps7; omega) | omega) (by first | (clear hps7; omega) | omega))
theorem lc_19 (G : GX l s0 D tys a0 dT) (GR : RS0 s0) (SF : SF0 s0) (GT : TXs0 s0) (GW : TXw0 s0) {k : kx_T} (X : AX k 350 dT) (E : kL k = l ∧ kS0 k = s0 ∧ kD k = D ∧ kR k = room_1) {q1 L : Nat} {xs : Nat → Int32} (S : SX k q1 L xs) (hL : L ≤ 3072) (I : Bd s) (jR : RLx s) (jFEQ : FEQ s) (p1 : iI s 89 = 1) (p2 : iI s 12 ≤ 8) (p3 : iI s 0 = iI s 74) (p4 : iI s 9 = iI s 90) {i : Int} (hi : 0 ≤ i ∧ i + 6 ≤ (L : Int)) {ce sl : Nat} (hce : ce + 29 ≤ 601024) (hsl : sl + 222 ≤ 7293034) (hk : ∀ (A : Nat → Nat) (t : PS), Bd t → RLx t → FEQ t → iI t 89 = 1 → iI t 12 ≤ 8 → iI t 0 = iI t 74 → iI t 9 = iI t 90 → WS k 1894 [(0, .ref q1), (1, .ref (A 0)), (2, .ref (A 179)), (3, .ref (A 517)), (4, .int (Int32.ofInt i))] [] (Wd A dT t) (ce + 29) (sl + 222)) : WS k 981 [(0, .ref q1), (1, .ref (A 0)), (2, .ref (A 179)), (3, .ref (A 517)), (4, .int (Int32.ofInt i))] [] (Wd A dT s) ce sl := by
  have F : Fm [22, 23, 24, 73, 77, 75, 78, 79, 80, 81] [33, 26, 27, 28, 29, 30, 31, 32, 20, 36, 37, 35, 202, 204, 205, 206, 207, 208, 209, 210, 211, 212, 213, 214, 215, 216, 217, 218, 219, 220, 221, 222, 223, 224, 225, 226, 227, 203, 161, 230, 233] s s := fm_rf _ _ s
  have b1 : (0 : Int) ≤ iI s 0 ∧ iI s 0 ≤ 200 := I.1 0
  have b2 : (0 : Int) ≤ iI s 74 ∧ iI s 74 ≤ 200 := I.1 74
  have b3 : (0 : Int) ≤ iI s 9 ∧ iI s 9 ≤ 12 := I.1 9
  have b4 : (0 : Int) ≤ iI s 90 ∧ iI s 90 ≤ 12 := I.1 90
  have b5 : (0 : Int) ≤ iI s 12 ∧ iI s 12 ≤ 9 := I.1 12
  have b6 : (1 : Int) ≤ iI s 89 ∧ iI s 89 ≤ 8 := I.1 89
  refine z_aload_n X (x := A 0) (show cdA 350 981 = some (.aload_n 1, 1, 0, 0, 0) from rfl) (List.Mem.tail _ (List.Mem.head _)) ?_
  refine z_callV X 0 (rm := rmN 154) (As := []) (st := []) (show cdA 350 982 = some (.invokevirtual 209, 3, 154, 0, 0) from rfl) rfl (by decide) rfl (by rw [E.1, E.2.1, E.2.2.1]; exact cs_cost G I ) ⟨by rw [E.2.2.2]; exact (show 12 + 1 ≤ 2048 by omega), by rw [E.2.2.2]; exact (show 8 + (1 + 11) + 237 ≤ 84000 by omega), by rw [E.2.2.2]; exact (show ce + 0 ≤ 601024 by omega), by rw [E.2.2.2]; exact (show sl + 0 ≤ 7293034 by omega)⟩ (Nat.le_of_ble_eq_true rfl) (fun vv s7 hq => ?_) (fun ee s7 hq => ?_)
  rotate_left
  · obtain ⟨Is7, Fs7, e8, hv, hrs7, hps7⟩ := hq; cases hv
  obtain ⟨Is7, Fs7, e8, hv, hrs7, hps7⟩ := hq
  cases hv
  have Gs7 := fm_ts F Fs7 (by decide) (by decide)
  have JRLx_s7 : RLx s7 := RLx_fm Fs7 (by decide) jR
  have JFEQ_s7 : FEQ s7 := FEQ_fm Fs7 (by decide) jFEQ
  have ws7_0 : iI s7 0 = iI s 0 := fm_i Fs7 (by decide)
  have ws7_74 : iI s7 74 = iI s 74 := fm_i Fs7 (by decide)
  have ws7_9 : iI s7 9 = iI s 9 := fm_i Fs7 (by decide)
  have ws7_90 : iI s7 90 = iI s 90 := fm_i Fs7 (by decide)
  have ws7_12 : iI s7 12 = iI s 12 := fm_i Fs7 (by decide)
  have ws7_89 : iI s7 89 = iI s 89 := fm_i Fs7 (by decide)
  have wos7 : iO s7 = iO s := fm_o Fs7 (by decide)
  show WS k 985 [(0, .ref q1), (1, .ref (A 0)), (2, .ref (A 179)), (3, .ref (A 517)), (4, .int (Int32.ofInt i))] [.int (Int32.ofInt e8)] (Wd A dT s7) ce sl
  refine w_pop X.1 (ax_d X (show cdA 350 985 = some (.pop, 1, 0, 0, 0) from rfl)) rfl ?_
  refine z_aload_n X (x := A 179) (show cdA 350 986 = some (.aload_n 2, 1, 0, 0, 0) from rfl) (List.Mem.tail _ (List.Mem.tail _ (List.Mem.head _))) ?_
  refine z_callV X 179 (rm := rmN 253) (As := []) (st := []) (show cdA 350 987 = some (.invokevirtual 212, 3, 253, 0, 0) from rfl) rfl (by decide) rfl (by rw [E.1, E.2.1, E.2.2.1]; exact k_cost G Is7 JRLx_s7 ) ⟨by rw [E.2.2.2]; exact (show 41 + 1 ≤ 2048 by omega), by rw [E.2.2.2]; exact (show 8 + (1 + 11) + 1663 ≤ 84000 by omega), by rw [E.2.2.2]; exact (show ce + 0 ≤ 601024 by omega), by rw [E.2.2.2]; exact (show sl + 0 ≤ 7293034 by omega)⟩ (Nat.le_of_ble_eq_true rfl) (fun vv s9 hq => ?_) (fun ee s9 hq => ?_)
  rotate_left
  · obtain ⟨Is9, Fs9, JRLx_s9, e10, hv, hrs9, hps9⟩ := hq; cases hv
  obtain ⟨Is9, Fs9, JRLx_s9, e10, hv, hrs9, hps9⟩ := hq
  cases hv
  have Gs9 := fm_ts Gs7 Fs9 (by decide) (by decide)
  have JRLx_s9 : RLx s9 := RLx_fm Fs9 (by decide) JRLx_s7
  have JFEQ_s9 : FEQ s9 := FEQ_fm Fs9 (by decide) JFEQ_s7
  have ws9_0 : iI s9 0 = iI s7 0 := fm_i Fs9 (by decide)
  have ws9_74 : iI s9 74 = iI s7 74 := fm_i Fs9 (by decide)
  have ws9_9 : iI s9 9 = iI s7 9 := fm_i Fs9 (by decide)
  have ws9_90 : iI s9 90 = iI s7 90 := fm_i Fs9 (by decide)
  have ws9_12 : iI s9 12 = iI s7 12 := fm_i Fs9 (by decide)
  have ws9_89 : iI s9 89 = iI s7 89 := fm_i Fs9 (by decide)
  have wos9 : iO s9 = iO s7 := fm_o Fs9 (by decide)
  show WS k 990 [(0, .ref q1), (1, .ref (A 0)), (2, .ref (A 179)), (3, .ref (A 517)), (4, .int (Int32.ofInt i))] [.int (Int32.ofInt e10)] (Wd A dT s9) ce sl
  refine w_pop X.1 (ax_d X (show cdA 350 990 = some (.pop, 1, 0, 0, 0) from rfl)) rfl ?_
  refine z_goto X (t := 1894) (show cdA 350 991 = some (.goto 903, 3, 0, 0, 0) from rfl) (by decide) ?_
  refine w_widen (ce' := ce + 29) (sl' := sl + 222) (by omega) (by omega) ?_
  exact WS_lv (lv := [(0, .ref q1), (1, .ref (A 0)), (2, .ref (A 179)), (3, .ref (A 517)), (4, .int (Int32.ofInt i))]) (List.forall_mem_cons.mpr ⟨(List.Mem.head _), (List.forall_mem_cons.mpr ⟨(List.Mem.tail _ (List.Mem.head _)), (List.forall_mem_cons.mpr ⟨(List.Mem.tail _ (List.Mem.tail _ (List.Mem.head _))), (List.forall_mem_cons.mpr ⟨(List.Mem.tail _ (List.Mem.tail _ (List.Mem.tail _ (List.Mem.head _)))), (List.forall_mem_cons.mpr ⟨(List.Mem.tail _ (List.Mem.tail _ (List.Mem.tail _ (List.Mem.tail _ (List.Mem.head _))))), (fun q h => absurd h List.not_mem_nil)⟩)⟩)⟩)⟩)⟩) (hk A _ Is9 JRLx_s9 JFEQ_s9 (by omega) (by omega) (by omega) (by omega))
theorem lc_20 (G : GX l s0 D tys a0 dT) (GR : RS0 s0) (SF : SF0 s0) (GT : TXs0 s0) (GW : TXw0 s0) {k : kx_T} (X : AX k 350 dT) (E : kL k = l ∧ kS0 k = s0 ∧ kD k = D ∧ kR k = room_1) {q1 L : Nat} {xs : Nat → Int32} (S : SX k q1 L xs) (hL : L ≤ 3072) (I : Bd s) (jR : RLx s) (jFEQ : FEQ s) (p1 : iI s 89 = 1) (p2 : iI s 12 ≤ 8) (p3 : iI s 0 = iI s 74) (p4 : iI s 9 = iI s 90) {i : Int} (hi : 0 ≤ i ∧ i + 6 ≤ (L : Int)) {ce sl : Nat} (hce : ce + 29 ≤ 601024) (hsl : sl + 222 ≤ 7293034) (hk : ∀ (A : Nat → Nat) (t : PS), Bd t → RLx t → FEQ t → iI t 89 = 1 → iI t 12 ≤ 8 → iI t 0 = iI t 74 → iI t 9 = iI t 90 → WS k 1894 [(0, .ref q1), (1, .ref (A 0)), (2, .ref (A 179)), (3, .ref (A 517)), (4, .int (Int32.ofInt i))] [] (Wd A dT t) (ce + 29) (sl + 222)) : WS k 994 [(0, .ref q1), (1, .ref (A 0)), (2, .ref (A 179)), (3, .ref (A 517)), (4, .int (Int32.ofInt i))] [] (Wd A dT s) ce sl := by
  have F : Fm [22, 23, 24, 25, 26, 27, 73, 77, 75, 78, 79, 80, 81, 92, 93, 94] [33, 26, 27, 28, 29, 30, 31, 32, 20, 36, 37, 21, 35, 38, 1022, 1023, 1460, 202, 204, 205, 206, 207, 208, 209, 210, 211, 212, 213, 214, 215, 216, 217, 218, 219, 220, 221, 222, 223, 224, 225, 226, 227, 203, 161, 230, 233, 231, 232, 228] s s := fm_rf _ _ s
  have b1 : (0 : Int) ≤ iI s 0 ∧ iI s 0 ≤ 200 := I.1 0
  have b2 : (0 : Int) ≤ iI s 74 ∧ iI s 74 ≤ 200 := I.1 74
  have b3 : (0 : Int) ≤ iI s 9 ∧ iI s 9 ≤ 12 := I.1 9
  have b4 : (0 : Int) ≤ iI s 90 ∧ iI s 90 ≤ 12 := I.1 90
  have b5 : (0 : Int) ≤ iI s 12 ∧ iI s 12 ≤ 9 := I.1 12
  have b6 : (1 : Int) ≤ iI s 89 ∧ iI s 89 ≤ 8 := I.1 89
  refine z_aload_n X (x := A 0) (show cdA 350 994 = some (.aload_n 1, 1, 0, 0, 0) from rfl) (List.Mem.tail _ (List.Mem.head _)) ?_
  refine z_aload_n X (x := q1) (show cdA 350 995 = some (.aload_n 0, 1, 0, 0, 0) from rfl) (List.Mem.head _) ?_
  refine z_load X (x := i) (show cdA 350 996 = some (.iload 4, 2, 0, 0, 0) from rfl) (List.Mem.tail _ (List.Mem.tail _ (List.Mem.tail _ (List.Mem.tail _ (List.Mem.head _))))) ?_
  refine z_const X (show cdA 350 998 = some (.iconst 1, 1, 0, 0, 0) from rfl) ?_
  refine z_add X (show cdA 350 999 = some (.iadd, 1, 0, 0, 0) from rfl) ?_
  refine z_sld X S hL (show cdA 350 1000 = some (.iaload, 1, 0, 0, 0) from rfl) (show 0 ≤ (i + 1) ∧ (i + 1) < (L : Int) by omega) ?_
  have sr7 : rng (sc xs (i + 1)) := sc_rng
  refine z_aload_n X (x := A 517) (show cdA 350 1001 = some (.aload_n 3, 1, 0, 0, 0) from rfl) (List.Mem.tail _ (List.Mem.tail _ (List.Mem.tail _ (List.Mem.head _)))) ?_
  refine z_callL X (rm := rmN 330) (As := [.ref (A 0), .int (Int32.ofInt (sc xs (i + 1))), .ref (A 517)]) (st := []) (show cdA 350 1002 = some (.invokestatic 213, 3, 330, 6, 0) from rfl) (by decide) rfl (by rw [E.1, E.2.1, E.2.2.1]; exact lw_better G I (by omega)) ⟨by rw [E.2.2.2]; exact (show 14 + 1 ≤ 2048 by omega), by rw [E.2.2.2]; exact (show 8 + (4 + 11) + 289 ≤ 84000 by omega), by rw [E.2.2.2]; exact (show ce + 1 ≤ 601024 by omega), by rw [E.2.2.2]; exact (show sl + 6 ≤ 7293034 by omega)⟩ (Nat.le_of_ble_eq_true rfl) (fun vv A s8 hA2 hq => ?_) (fun ee A s8 hA2 hq => ?_)
  rotate_left
  · obtain ⟨Is8, Fs8, e9, hv, hrs8, hps8⟩ := hq; cases hv
  obtain ⟨Is8, Fs8, e9, hv, hrs8, hps8⟩ := hq
  cases hv
  rw [← hA2 0 (by decide)]
  rw [← hA2 179 (by decide)]
  rw [← hA2 517 (by decide)]
  have Gs8 := fm_ts F Fs8 (by decide) (by decide)
  have JRLx_s8 : RLx s8 := RLx_fm Fs8 (by decide) jR
  have JFEQ_s8 : FEQ s8 := FEQ_fm Fs8 (by decide) jFEQ
  have ws8_0 : iI s8 0 = iI s 0 := fm_i Fs8 (by decide)
  have ws8_74 : iI s8 74 = iI s 74 := fm_i Fs8 (by decide)
  have ws8_9 : iI s8 9 = iI s 9 := fm_i Fs8 (by decide)
  have ws8_90 : iI s8 90 = iI s 90 := fm_i Fs8 (by decide)
  have ws8_12 : iI s8 12 = iI s 12 := fm_i Fs8 (by decide)
  have ws8_89 : iI s8 89 = iI s 89 := fm_i Fs8 (by decide)
  show WS k 1005 [(0, .ref q1), (1, .ref (A 0)), (2, .ref (A 179)), (3, .ref (A 517)), (4, .int (Int32.ofInt i))] [.int (Int32.ofInt e9)] (Wd A dT s8) (ce + 1) (sl + 6)
  refine z_store X (lv' := [(5, .int (Int32.ofInt e9)), (0, .ref q1), (1, .ref (A 0)), (2, .ref (A 179)), (3, .ref (A 517)), (4, .int (Int32.ofInt i))]) (show cdA 350 1005 = some (.istore 5, 2, 0, 0, 0) from rfl) (by decide) (fun _ h => h) ?_
  refine z_aload_n X (x := A 179) (show cdA 350 1007 = some (.aload_n 2, 1, 0, 0, 0) from rfl) (List.Mem.tail _ (List.Mem.tail _ (List.Mem.tail _ (List.Mem.head _)))) ?_
  refine z_aload_n X (x := q1) (show cdA 350 1008 = some (.aload_n 0, 1, 0, 0, 0) from rfl) (List.Mem.tail _ (List.Mem.head _)) ?_
  refine z_load X (x := i) (show cdA 350 1009 = some (.iload 4, 2, 0, 0, 0) from rfl) (List.Mem.tail _ (List.Mem.tail _ (List.Mem.tail _ (List.Mem.tail _ (List.Mem.tail _ (List.Mem.head _)))))) ?_
  refine z_const X (show cdA 350 1011 = some (.iconst 1, 1, 0, 0, 0) from rfl) ?_
  refine z_add X (show cdA 350 1012 = some (.iadd, 1, 0, 0, 0) from rfl) ?_
  refine z_sld X S hL (show cdA 350 1013 = some (.iaload, 1, 0, 0, 0) from rfl) (show 0 ≤ (i + 1) ∧ (i + 1) < (L : Int) by omega) ?_
  have sr10 : rng (sc xs (i + 1)) := sc_rng
  refine z_callV X 179 (rm := rmN 256) (As := [.int (Int32.ofInt (sc xs (i + 1)))]) (st := []) (show cdA 350 1014 = some (.invokevirtual 215, 3, 256, 0, 0) from rfl) rfl (by decide) rfl (by rw [E.1, E.2.1, E.2.2.1]; exact k_better G Is8 JRLx_s8 (by first | exact ⟨sr10.1, sr10.2⟩ | omega)) ⟨by rw [E.2.2.2]; exact (show 42 + 1 ≤ 2048 by omega), by rw [E.2.2.2]; exact (show 8 + (2 + 11) + 1687 ≤ 84000 by omega), by rw [E.2.2.2]; exact (show (ce + 1) + 0 ≤ 601024 by omega), by rw [E.2.2.2]; exact (show (sl + 6) + 0 ≤ 7293034 by omega)⟩ (Nat.le_of_ble_eq_true rfl) (fun vv s11 hq => ?_) (fun ee s11 hq => ?_)
  rotate_left
  · obtain ⟨Is11, Fs11, JRLx_s11, e12, hv, hrs11, hps11⟩ := hq; cases hv
  obtain ⟨Is11, Fs11, JRLx_s11, e12, hv, hrs11, hps11⟩ := hq
  cases hv
  have Gs11 := fm_ts Gs8 Fs11 (by decide) (by decide)
  have JRLx_s11 : RLx s11 := RLx_fm Fs11 (by decide) JRLx_s8
  have JFEQ_s11 : FEQ s11 := FEQ_fm Fs11 (by decide) JFEQ_s8
  have ws11_0 : iI s11 0 = iI s8 0 := fm_i Fs11 (by decide)
  have ws11_74 : iI s11 74 = iI s8 74 := fm_i Fs11 (by decide)
  have ws11_9 : iI s11 9 = iI s8 9 := fm_i Fs11 (by decide)
  have ws11_90 : iI s11 90 = iI s8 90 := fm_i Fs11 (by decide)
  have ws11_12 : iI s11 12 = iI s8 12 := fm_i Fs11 (by decide)
  have ws11_89 : iI s11 89 = iI s8 89 := fm_i Fs11 (by decide)
  have wos11 : iO s11 = iO s8 := fm_o Fs11 (by decide)
  show WS k 1017 [(5, .int (Int32.ofInt e9)), (0, .ref q1), (1, .ref (A 0)), (2, .ref (A 179)), (3, .ref (A 517)), (4, .int (Int32.ofInt i))] [.int (Int32.ofInt e12)] (Wd A dT s11) (ce + 1) (sl + 6)
  refine z_store X (lv' := [(6, .int (Int32.ofInt e12)), (5, .int (Int32.ofInt e9)), (0, .ref q1), (1, .ref (A 0)), (2, .ref (A 179)), (3, .ref (A 517)), (4, .int (Int32.ofInt i))]) (show cdA 350 1017 = some (.istore 6, 2, 0, 0, 0) from rfl) (by decide) (fun _ h => h) ?_
  refine z_goto X (t := 1894) (show cdA 350 1019 = some (.goto 875, 3, 0, 0, 0) from rfl) (by decide) ?_
  refine w_widen (ce' := ce + 29) (sl' := sl + 222) (by omega) (by omega) ?_
  exact WS_lv (lv := [(0, .ref q1), (1, .ref (A 0)), (2, .ref (A 179)), (3, .ref (A 517)), (4, .int (Int32.ofInt i))]) (List.forall_mem_cons.mpr ⟨(List.Mem.tail _ (List.Mem.tail _ (List.Mem.head _))), (List.forall_mem_cons.mpr ⟨(List.Mem.tail _ (List.Mem.tail _ (List.Mem.tail _ (List.Mem.head _)))), (List.forall_mem_cons.mpr ⟨(List.Mem.tail _ (List.Mem.tail _ (List.Mem.tail _ (List.Mem.tail _ (List.Mem.head _))))), (List.forall_mem_cons.mpr ⟨(List.Mem.tail _ (List.Mem.tail _ (List.Mem.tail _ (List.Mem.tail _ (List.Mem.tail _ (List.Mem.head _)))))), (List.forall_mem_cons.mpr ⟨(List.Mem.tail _ (List.Mem.tail _ (List.Mem.tail _ (List.Mem.tail _ (List.Mem.tail _ (List.Mem.tail _ (List.Mem.head _))))))), (fun q h => absurd h List.not_mem_nil)⟩)⟩)⟩)⟩)⟩) (hk A _ Is11 JRLx_s11 JFEQ_s11 (by omega) (by omega) (by omega) (by omega))
theorem lc_21 (G : GX l s0 D tys a0 dT) (GR : RS0 s0) (SF : SF0 s0) (GT : TXs0 s0) (GW : TXw0 s0) {k : kx_T} (X : AX k 350 dT) (E : kL k = l ∧ kS0 k = s0 ∧ kD k = D ∧ kR k = room_1) {q1 L : Nat} {xs : Nat → Int32} (S : SX k q1 L xs) (hL : L ≤ 3072) (I : Bd s) (jR : RLx s) (jFEQ : FEQ s) (p1 : iI s 89 = 1) (p2 : iI s 12 ≤ 8) (p3 : iI s 0 = iI s 74) (p4 : iI s 9 = iI s 90) {i : Int} (hi : 0 ≤ i ∧ i + 6 ≤ (L : Int)) {ce sl : Nat} (hce : ce + 29 ≤ 601024) (hsl : sl + 222 ≤ 7293034) (hk : ∀ (A : Nat → Nat) (t : PS), Bd t → RLx t → FEQ t → iI t 89 = 1 → iI t 12 ≤ 8 → iI t 0 = iI t 74 → iI t 9 = iI t 90 → WS k 1894 [(0, .ref q1), (1, .ref (A 0)), (2, .ref (A 179)), (3, .ref (A 517)), (4, .int (Int32.ofInt i))] [] (Wd A dT t) (ce + 29) (sl + 222)) : WS k 1022 [(0, .ref q1), (1, .ref (A 0)), (2, .ref (A 179)), (3, .ref (A 517)), (4, .int (Int32.ofInt i))] [] (Wd A dT s) ce sl := by
  have F : Fm [22, 23, 24, 25, 26, 27, 73, 77, 75, 78, 79, 80, 81, 92, 93, 94] [33, 26, 27, 28, 29, 30, 31, 32, 20, 36, 37, 21, 35, 38, 1022, 1023, 1460, 202, 204, 205, 206, 207, 208, 209, 210, 211, 212, 213, 214, 215, 216, 217, 218, 219, 220, 221, 222, 223, 224, 225, 226, 227, 203, 161, 230, 233, 231, 232, 228] s s := fm_rf _ _ s
  have b1 : (0 : Int) ≤ iI s 0 ∧ iI s 0 ≤ 200 := I.1 0
  have b2 : (0 : Int) ≤ iI s 74 ∧ iI s 74 ≤ 200 := I.1 74
  have b3 : (0 : Int) ≤ iI s 9 ∧ iI s 9 ≤ 12 := I.1 9
  have b4 : (0 : Int) ≤ iI s 90 ∧ iI s 90 ≤ 12 := I.1 90
  have b5 : (0 : Int) ≤ iI s 12 ∧ iI s 12 ≤ 9 := I.1 12
  have b6 : (1 : Int) ≤ iI s 89 ∧ iI s 89 ≤ 8 := I.1 89
  refine z_aload_n X (x := A 0) (show cdA 350 1022 = some (.aload_n 1, 1, 0, 0, 0) from rfl) (List.Mem.tail _ (List.Mem.head _)) ?_
  refine z_aload_n X (x := q1) (show cdA 350 1023 = some (.aload_n 0, 1, 0, 0, 0) from rfl) (List.Mem.head _) ?_
  refine z_load X (x := i) (show cdA 350 1024 = some (.iload 4, 2, 0, 0, 0) from rfl) (List.Mem.tail _ (List.Mem.tail _ (List.Mem.tail _ (List.Mem.tail _ (List.Mem.head _))))) ?_
  refine z_const X (show cdA 350 1026 = some (.iconst 1, 1, 0, 0, 0) from rfl) ?_
  refine z_add X (show cdA 350 1027 = some (.iadd, 1, 0, 0, 0) from rfl) ?_
  refine z_sld X S hL (show cdA 350 1028 = some (.iaload, 1, 0, 0, 0) from rfl) (show 0 ≤ (i + 1) ∧ (i + 1) < (L : Int) by omega) ?_
  have sr7 : rng (sc xs (i + 1)) := sc_rng
  refine z_aload_n X (x := A 517) (show cdA 350 1029 = some (.aload_n 3, 1, 0, 0, 0) from rfl) (List.Mem.tail _ (List.Mem.tail _ (List.Mem.tail _ (List.Mem.head _)))) ?_
  refine z_callL X (rm := rmN 331) (As := [.ref (A 0), .int (Int32.ofInt (sc xs (i + 1))), .ref (A 517)]) (st := []) (show cdA 350 1030 = some (.invokestatic 216, 3, 331, 6, 0) from rfl) (by decide) rfl (by rw [E.1, E.2.1, E.2.2.1]; exact lw_grow G I (by omega)) ⟨by rw [E.2.2.2]; exact (show 14 + 1 ≤ 2048 by omega), by rw [E.2.2.2]; exact (show 8 + (4 + 11) + 290 ≤ 84000 by omega), by rw [E.2.2.2]; exact (show ce + 1 ≤ 601024 by omega), by rw [E.2.2.2]; exact (show sl + 6 ≤ 7293034 by omega)⟩ (Nat.le_of_ble_eq_true rfl) (fun vv A s8 hA2 hq => ?_) (fun ee A s8 hA2 hq => ?_)
  rotate_left
  · obtain ⟨Is8, Fs8, e9, hv, hrs8, hps8⟩ := hq; cases hv
  obtain ⟨Is8, Fs8, e9, hv, hrs8, hps8⟩ := hq
  cases hv
  rw [← hA2 0 (by decide)]
  rw [← hA2 179 (by decide)]
  rw [← hA2 517 (by decide)]
  have Gs8 := fm_ts F Fs8 (by decide) (by decide)
  have JRLx_s8 : RLx s8 := RLx_fm Fs8 (by decide) jR
  have JFEQ_s8 : FEQ s8 := FEQ_fm Fs8 (by decide) jFEQ
  have ws8_0 : iI s8 0 = iI s 0 := fm_i Fs8 (by decide)
  have ws8_74 : iI s8 74 = iI s 74 := fm_i Fs8 (by decide)
  have ws8_9 : iI s8 9 = iI s 9 := fm_i Fs8 (by decide)
  have ws8_90 : iI s8 90 = iI s 90 := fm_i Fs8 (by decide)
  have ws8_12 : iI s8 12 = iI s 12 := fm_i Fs8 (by decide)
  have ws8_89 : iI s8 89 = iI s 89 := fm_i Fs8 (by decide)
  show WS k 1033 [(0, .ref q1), (1, .ref (A 0)), (2, .ref (A 179)), (3, .ref (A 517)), (4, .int (Int32.ofInt i))] [.int (Int32.ofInt e9)] (Wd A dT s8) (ce + 1) (sl + 6)
  refine z_store X (lv' := [(5, .int (Int32.ofInt e9)), (0, .ref q1), (1, .ref (A 0)), (2, .ref (A 179)), (3, .ref (A 517)), (4, .int (Int32.ofInt i))]) (show cdA 350 1033 = some (.istore 5, 2, 0, 0, 0) from rfl) (by decide) (fun _ h => h) ?_
  refine z_aload_n X (x := A 179) (show cdA 350 1035 = some (.aload_n 2, 1, 0, 0, 0) from rfl) (List.Mem.tail _ (List.Mem.tail _ (List.Mem.tail _ (List.Mem.head _)))) ?_
  refine z_aload_n X (x := q1) (show cdA 350 1036 = some (.aload_n 0, 1, 0, 0, 0) from rfl) (List.Mem.tail _ (List.Mem.head _)) ?_
  refine z_load X (x := i) (show cdA 350 1037 = some (.iload 4, 2, 0, 0, 0) from rfl) (List.Mem.tail _ (List.Mem.tail _ (List.Mem.tail _ (List.Mem.tail _ (List.Mem.tail _ (List.Mem.head _)))))) ?_
  refine z_const X (show cdA 350 1039 = some (.iconst 1, 1, 0, 0, 0) from rfl) ?_
  refine z_add X (show cdA 350 1040 = some (.iadd, 1, 0, 0, 0) from rfl) ?_
  refine z_sld X S hL (show cdA 350 1041 = some (.iaload, 1, 0, 0, 0) from rfl) (show 0 ≤ (i + 1) ∧ (i + 1) < (L : Int) by omega) ?_
  have sr10 : rng (sc xs (i + 1)) := sc_rng
  refine z_callV X 179 (rm := rmN 257) (As := [.int (Int32.ofInt (sc xs (i + 1)))]) (st := []) (show cdA 350 1042 = some (.invokevirtual 218, 3, 257, 0, 0) from rfl) rfl (by decide) rfl (by rw [E.1, E.2.1, E.2.2.1]; exact k_grow G Is8 JRLx_s8 (by first | exact ⟨sr10.1, sr10.2⟩ | omega)) ⟨by rw [E.2.2.2]; exact (show 42 + 1 ≤ 2048 by omega), by rw [E.2.2.2]; exact (show 8 + (3 + 11) + 1687 ≤ 84000 by omega), by rw [E.2.2.2]; exact (show (ce + 1) + 0 ≤ 601024 by omega), by rw [E.2.2.2]; exact (show (sl + 6) + 0 ≤ 7293034 by omega)⟩ (Nat.le_of_ble_eq_true rfl) (fun vv s11 hq => ?_) (fun ee s11 hq => ?_)
  rotate_left
  · obtain ⟨Is11, Fs11, JRLx_s11, e12, hv, hrs11, hps11⟩ := hq; cases hv
  obtain ⟨Is11, Fs11, JRLx_s11, e12, hv, hrs11, hps11⟩ := hq
  cases hv
  have Gs11 := fm_ts Gs8 Fs11 (by decide) (by decide)
  have JRLx_s11 : RLx s11 := RLx_fm Fs11 (by decide) JRLx_s8
  have JFEQ_s11 : FEQ s11 := FEQ_fm Fs11 (by decide) JFEQ_s8
  have ws11_0 : iI s11 0 = iI s8 0 := fm_i Fs11 (by decide)
  have ws11_74 : iI s11 74 = iI s8 74 := fm_i Fs11 (by decide)
  have ws11_9 : iI s11 9 = iI s8 9 := fm_i Fs11 (by decide)
  have ws11_90 : iI s11 90 = iI s8 90 := fm_i Fs11 (by decide)
  have ws11_12 : iI s11 12 = iI s8 12 := fm_i Fs11 (by decide)
  have ws11_89 : iI s11 89 = iI s8 89 := fm_i Fs11 (by decide)
  have wos11 : iO s11 = iO s8 := fm_o Fs11 (by decide)
  show WS k 1045 [(5, .int (Int32.ofInt e9)), (0, .ref q1), (1, .ref (A 0)), (2, .ref (A 179)), (3, .ref (A 517)), (4, .int (Int32.ofInt i))] [.int (Int32.ofInt e12)] (Wd A dT s11) (ce + 1) (sl + 6)
  refine z_store X (lv' := [(6, .int (Int32.ofInt e12)), (5, .int (Int32.ofInt e9)), (0, .ref q1), (1, .ref (A 0)), (2, .ref (A 179)), (3, .ref (A 517)), (4, .int (Int32.ofInt i))]) (show cdA 350 1045 = some (.istore 6, 2, 0, 0, 0) from rfl) (by decide) (fun _ h => h) ?_
  refine z_goto X (t := 1894) (show cdA 350 1047 = some (.goto 847, 3, 0, 0, 0) from rfl) (by decide) ?_
  refine w_widen (ce' := ce + 29) (sl' := sl + 222) (by omega) (by omega) ?_
  exact WS_lv (lv := [(0, .ref q1), (1, .ref (A 0)), (2, .ref (A 179)), (3, .ref (A 517)), (4, .int (Int32.ofInt i))]) (List.forall_mem_cons.mpr ⟨(List.Mem.tail _ (List.Mem.tail _ (List.Mem.head _))), (List.forall_mem_cons.mpr ⟨(List.Mem.tail _ (List.Mem.tail _ (List.Mem.tail _ (List.Mem.head _)))), (List.forall_mem_cons.mpr ⟨(List.Mem.tail _ (List.Mem.tail _ (List.Mem.tail _ (List.Mem.tail _ (List.Mem.head _))))), (List.forall_mem_cons.mpr ⟨(List.Mem.tail _ (List.Mem.tail _ (List.Mem.tail _ (List.Mem.tail _ (List.Mem.tail _ (List.Mem.head _)))))), (List.forall_mem_cons.mpr ⟨(List.Mem.tail _ (List.Mem.tail _ (List.Mem.tail _ (List.Mem.tail _ (List.Mem.tail _ (List.Mem.tail _ (List.Mem.head _))))))), (fun q h => absurd h List.not_mem_nil)⟩)⟩)⟩)⟩)⟩) (hk A _ Is11 JRLx_s11 JFEQ_s11 (by omega) (by omega) (by omega) (by omega))
theorem lc_22 (G : GX l s0 D tys a0 dT) (GR : RS0 s0) (SF : SF0 s0) (GT : TXs0 s0) (GW : TXw0 s0) {k : kx_T} (X : AX k 350 dT) (E : kL k = l ∧ kS0 k = s0 ∧ kD k = D ∧ kR k = room_1) {q1 L : Nat} {xs : Nat → Int32} (S : SX k q1 L xs) (hL : L ≤ 3072) (I : Bd s) (jR : RLx s) (jFEQ : FEQ s) (p1 : iI s 89 = 1) (p2 : iI s 12 ≤ 8) (p3 : iI s 0 = iI s 74) (p4 : iI s 9 = iI s 90) {i : Int} (hi : 0 ≤ i ∧ i + 6 ≤ (L : Int)) {ce sl : Nat} (hce : ce + 29 ≤ 601024) (hsl : sl + 222 ≤ 7293034) (hk : ∀ (A : Nat → Nat) (t : PS), Bd t → RLx t → FEQ t → iI t 89 = 1 → iI t 12 ≤ 8 → iI t 0 = iI t 74 → iI t 9 = iI t 90 → WS k 1894 [(0, .ref q1), (1, .ref (A 0)), (2, .ref (A 179)), (3, .ref (A 517)), (4, .int (Int32.ofInt i))] [] (Wd A dT t) (ce + 29) (sl + 222)) : WS k 1050 [(0, .ref q1), (1, .ref (A 0)), (2, .ref (A 179)), (3, .ref (A 517)), (4, .int (Int32.ofInt i))] [] (Wd A dT s) ce sl := by
  have F : Fm [28, 73, 97] [39, 1460, 234] s s := fm_rf _ _ s
  have b1 : (0 : Int) ≤ iI s 0 ∧ iI s 0 ≤ 200 := I.1 0
  have b2 : (0 : Int) ≤ iI s 74 ∧ iI s 74 ≤ 200 := I.1 74
  have b3 : (0 : Int) ≤ iI s 9 ∧ iI s 9 ≤ 12 := I.1 9
  have b4 : (0 : Int) ≤ iI s 90 ∧ iI s 90 ≤ 12 := I.1 90
  have b5 : (0 : Int) ≤ iI s 12 ∧ iI s 12 ≤ 9 := I.1 12
  have b6 : (1 : Int) ≤ iI s 89 ∧ iI s 89 ≤ 8 := I.1 89
  refine z_aload_n X (x := A 0) (show cdA 350 1050 = some (.aload_n 1, 1, 0, 0, 0) from rfl) (List.Mem.tail _ (List.Mem.head _)) ?_
  refine z_aload_n X (x := q1) (show cdA 350 1051 = some (.aload_n 0, 1, 0, 0, 0) from rfl) (List.Mem.head _) ?_
  refine z_load X (x := i) (show cdA 350 1052 = some (.iload 4, 2, 0, 0, 0) from rfl) (List.Mem.tail _ (List.Mem.tail _ (List.Mem.tail _ (List.Mem.tail _ (List.Mem.head _))))) ?_
  refine z_const X (show cdA 350 1054 = some (.iconst 1, 1, 0, 0, 0) from rfl) ?_
  refine z_add X (show cdA 350 1055 = some (.iadd, 1, 0, 0, 0) from rfl) ?_
  refine z_sld X S hL (show cdA 350 1056 = some (.iaload, 1, 0, 0, 0) from rfl) (show 0 ≤ (i + 1) ∧ (i + 1) < (L : Int) by omega) ?_
  have sr7 : rng (sc xs (i + 1)) := sc_rng
  refine z_aload_n X (x := A 517) (show cdA 350 1057 = some (.aload_n 3, 1, 0, 0, 0) from rfl) (List.Mem.tail _ (List.Mem.tail _ (List.Mem.tail _ (List.Mem.head _)))) ?_
  refine z_callL X (rm := rmN 332) (As := [.ref (A 0), .int (Int32.ofInt (sc xs (i + 1))), .ref (A 517)]) (st := []) (show cdA 350 1058 = some (.invokestatic 219, 3, 332, 6, 0) from rfl) (by decide) rfl (by rw [E.1, E.2.1, E.2.2.1]; exact lw_region G I (by omega)) ⟨by rw [E.2.2.2]; exact (show 8 + 1 ≤ 2048 by omega), by rw [E.2.2.2]; exact (show 8 + (4 + 11) + 143 ≤ 84000 by omega), by rw [E.2.2.2]; exact (show ce + 1 ≤ 601024 by omega), by rw [E.2.2.2]; exact (show sl + 6 ≤ 7293034 by omega)⟩ (Nat.le_of_ble_eq_true rfl) (fun vv A s8 hA2 hq => ?_) (fun ee A s8 hA2 hq => ?_)
  rotate_left
  · obtain ⟨Is8, Fs8, e9, hv, hrs8, hps8⟩ := hq; cases hv
  obtain ⟨Is8, Fs8, e9, hv, hrs8, hps8⟩ := hq
  cases hv
  rw [← hA2 0 (by decide)]
  rw [← hA2 179 (by decide)]
  rw [← hA2 517 (by decide)]
  have Gs8 := fm_ts F Fs8 (by decide) (by decide)
  have JRLx_s8 : RLx s8 := RLx_fm Fs8 (by decide) jR
  have JFEQ_s8 : FEQ s8 := FEQ_fm Fs8 (by decide) jFEQ
  have ws8_0 : iI s8 0 = iI s 0 := fm_i Fs8 (by decide)
  have ws8_74 : iI s8 74 = iI s 74 := fm_i Fs8 (by decide)
  have ws8_9 : iI s8 9 = iI s 9 := fm_i Fs8 (by decide)
  have ws8_90 : iI s8 90 = iI s 90 := fm_i Fs8 (by decide)
  have ws8_12 : iI s8 12 = iI s 12 := fm_i Fs8 (by decide)
  have ws8_89 : iI s8 89 = iI s 89 := fm_i Fs8 (by decide)
  show WS k 1061 [(0, .ref q1), (1, .ref (A 0)), (2, .ref (A 179)), (3, .ref (A 517)), (4, .int (Int32.ofInt i))] [.int (Int32.ofInt e9)] (Wd A dT s8) (ce + 1) (sl + 6)
  refine z_store X (lv' := [(5, .int (Int32.ofInt e9)), (0, .ref q1), (1, .ref (A 0)), (2, .ref (A 179)), (3, .ref (A 517)), (4, .int (Int32.ofInt i))]) (show cdA 350 1061 = some (.istore 5, 2, 0, 0, 0) from rfl) (by decide) (fun _ h => h) ?_
  refine z_aload_n X (x := A 179) (show cdA 350 1063 = some (.aload_n 2, 1, 0, 0, 0) from rfl) (List.Mem.tail _ (List.Mem.tail _ (List.Mem.tail _ (List.Mem.head _)))) ?_
  refine z_aload_n X (x := q1) (show cdA 350 1064 = some (.aload_n 0, 1, 0, 0, 0) from rfl) (List.Mem.tail _ (List.Mem.head _)) ?_
  refine z_load X (x := i) (show cdA 350 1065 = some (.iload 4, 2, 0, 0, 0) from rfl) (List.Mem.tail _ (List.Mem.tail _ (List.Mem.tail _ (List.Mem.tail _ (List.Mem.tail _ (List.Mem.head _)))))) ?_
  refine z_const X (show cdA 350 1067 = some (.iconst 1, 1, 0, 0, 0) from rfl) ?_
  refine z_add X (show cdA 350 1068 = some (.iadd, 1, 0, 0, 0) from rfl) ?_
  refine z_sld X S hL (show cdA 350 1069 = some (.iaload, 1, 0, 0, 0) from rfl) (show 0 ≤ (i + 1) ∧ (i + 1) < (L : Int) by omega) ?_
  have sr10 : rng (sc xs (i + 1)) := sc_rng
  refine z_callV X 179 (rm := rmN 258) (As := [.int (Int32.ofInt (sc xs (i + 1)))]) (st := []) (show cdA 350 1070 = some (.invokevirtual 221, 3, 258, 0, 0) from rfl) rfl (by decide) rfl (by rw [E.1, E.2.1, E.2.2.1]; exact k_region G Is8 (by first | exact ⟨sr10.1, sr10.2⟩ | omega)) ⟨by rw [E.2.2.2]; exact (show 7 + 1 ≤ 2048 by omega), by rw [E.2.2.2]; exact (show 8 + (3 + 11) + 122 ≤ 84000 by omega), by rw [E.2.2.2]; exact (show (ce + 1) + 0 ≤ 601024 by omega), by rw [E.2.2.2]; exact (show (sl + 6) + 0 ≤ 7293034 by omega)⟩ (Nat.le_of_ble_eq_true rfl) (fun vv s11 hq => ?_) (fun ee s11 hq => ?_)
  rotate_left
  · obtain ⟨Is11, Fs11, e12, hv, hrs11, hps11⟩ := hq; cases hv
  obtain ⟨Is11, Fs11, e12, hv, hrs11, hps11⟩ := hq
  cases hv
  have Gs11 := fm_ts Gs8 Fs11 (by decide) (by decide)
  have JRLx_s11 : RLx s11 := RLx_fm Fs11 (by decide) JRLx_s8
  have JFEQ_s11 : FEQ s11 := FEQ_fm Fs11 (by decide) JFEQ_s8
  have ws11_0 : iI s11 0 = iI s8 0 := fm_i Fs11 (by decide)
  have ws11_74 : iI s11 74 = iI s8 74 := fm_i Fs11 (by decide)
  have ws11_9 : iI s11 9 = iI s8 9 := fm_i Fs11 (by decide)
  have ws11_90 : iI s11 90 = iI s8 90 := fm_i Fs11 (by decide)
  have ws11_12 : iI s11 12 = iI s8 12 := fm_i Fs11 (by decide)
  have ws11_89 : iI s11 89 = iI s8 89 := fm_i Fs11 (by decide)
  have wos11 : iO s11 = iO s8 := fm_o Fs11 (by decide)
  show WS k 1073 [(5, .int (Int32.ofInt e9)), (0, .ref q1), (1, .ref (A 0)), (2, .ref (A 179)), (3, .ref (A 517)), (4, .int (Int32.ofInt i))] [.int (Int32.ofInt e12)] (Wd A dT s11) (ce + 1) (sl + 6)
  refine z_store X (lv' := [(6, .int (Int32.ofInt e12)), (5, .int (Int32.ofInt e9)), (0, .ref q1), (1, .ref (A 0)), (2, .ref (A 179)), (3, .ref (A 517)), (4, .int (Int32.ofInt i))]) (show cdA 350 1073 = some (.istore 6, 2, 0, 0, 0) from rfl) (by decide) (fun _ h => h) ?_
  refine z_goto X (t := 1894) (show cdA 350 1075 = some (.goto 819, 3, 0, 0, 0) from rfl) (by decide) ?_
  refine w_widen (ce' := ce + 29) (sl' := sl + 222) (by omega) (by omega) ?_
  exact WS_lv (lv := [(0, .ref q1), (1, .ref (A 0)), (2, .ref (A 179)), (3, .ref (A 517)), (4, .int (Int32.ofInt i))]) (List.forall_mem_cons.mpr ⟨(List.Mem.tail _ (List.Mem.tail _ (List.Mem.head _))), (List.forall_mem_cons.mpr ⟨(List.Mem.tail _ (List.Mem.tail _ (List.Mem.tail _ (List.Mem.head _)))), (List.forall_mem_cons.mpr ⟨(List.Mem.tail _ (List.Mem.tail _ (List.Mem.tail _ (List.Mem.tail _ (List.Mem.head _))))), (List.forall_mem_cons.mpr ⟨(List.Mem.tail _ (List.Mem.tail _ (List.Mem.tail _ (List.Mem.tail _ (List.Mem.tail _ (List.Mem.head _)))))), (List.forall_mem_cons.mpr ⟨(List.Mem.tail _ (List.Mem.tail _ (List.Mem.tail _ (List.Mem.tail _ (List.Mem.tail _ (List.Mem.tail _ (List.Mem.head _))))))), (fun q h => absurd h List.not_mem_nil)⟩)⟩)⟩)⟩)⟩) (hk A _ Is11 JRLx_s11 JFEQ_s11 (by omega) (by omega) (by omega) (by omega))
theorem lc_23 (G : GX l s0 D tys a0 dT) (GR : RS0 s0) (SF : SF0 s0) (GT : TXs0 s0) (GW : TXw0 s0) {k : kx_T} (X : AX k 350 dT) (E : kL k = l ∧ kS0 k = s0 ∧ kD k = D ∧ kR k = room_1) {q1 L : Nat} {xs : Nat → Int32} (S : SX k q1 L xs) (hL : L ≤ 3072) (I : Bd s) (jR : RLx s) (jFEQ : FEQ s) (p1 : iI s 89 = 1) (p2 : iI s 12 ≤ 8) (p3 : iI s 0 = iI s 74) (p4 : iI s 9 = iI s 90) {i : Int} (hi : 0 ≤ i ∧ i + 6 ≤ (L : Int)) {ce sl : Nat} (hce : ce + 29 ≤ 601024) (hsl : sl + 222 ≤ 7293034) (hk : ∀ (A : Nat → Nat) (t : PS), Bd t → RLx t → FEQ t → iI t 89 = 1 → iI t 12 ≤ 8 → iI t 0 = iI t 74 → iI t 9 = iI t 90 → WS k 1894 [(0, .ref q1), (1, .ref (A 0)), (2, .ref (A 179)), (3, .ref (A 517)), (4, .int (Int32.ofInt i))] [] (Wd A dT t) (ce + 29) (sl + 222)) : WS k 1078 [(0, .ref q1), (1, .ref (A 0)), (2, .ref (A 179)), (3, .ref (A 517)), (4, .int (Int32.ofInt i))] [] (Wd A dT s) ce sl := by
  have F : Fm [22, 23, 24, 31, 29, 30, 73, 77, 75, 78, 79, 80, 81, 100, 101] [33, 26, 27, 28, 29, 30, 31, 32, 20, 40, 41, 42, 45, 43, 44, 1460, 202, 204, 205, 206, 207, 208, 209, 210, 211, 212, 213, 214, 215, 216, 217, 218, 219, 220, 221, 222, 223, 224, 225, 226, 227, 203, 161, 230, 231, 232, 240, 238, 239, 236, 235] s s := fm_rf _ _ s
  have b1 : (0 : Int) ≤ iI s 0 ∧ iI s 0 ≤ 200 := I.1 0
  have b2 : (0 : Int) ≤ iI s 74 ∧ iI s 74 ≤ 200 := I.1 74
  have b3 : (0 : Int) ≤ iI s 9 ∧ iI s 9 ≤ 12 := I.1 9
  have b4 : (0 : Int) ≤ iI s 90 ∧ iI s 90 ≤ 12 := I.1 90
  have b5 : (0 : Int) ≤ iI s 12 ∧ iI s 12 ≤ 9 := I.1 12
  have b6 : (1 : Int) ≤ iI s 89 ∧ iI s 89 ≤ 8 := I.1 89
  refine z_aload_n X (x := A 0) (show cdA 350 1078 = some (.aload_n 1, 1, 0, 0, 0) from rfl) (List.Mem.tail _ (List.Mem.head _)) ?_
  refine z_aload_n X (x := q1) (show cdA 350 1079 = some (.aload_n 0, 1, 0, 0, 0) from rfl) (List.Mem.head _) ?_
  refine z_load X (x := i) (show cdA 350 1080 = some (.iload 4, 2, 0, 0, 0) from rfl) (List.Mem.tail _ (List.Mem.tail _ (List.Mem.tail _ (List.Mem.tail _ (List.Mem.head _))))) ?_
  refine z_const X (show cdA 350 1082 = some (.iconst 1, 1, 0, 0, 0) from rfl) ?_
  refine z_add X (show cdA 350 1083 = some (.iadd, 1, 0, 0, 0) from rfl) ?_
  refine z_sld X S hL (show cdA 350 1084 = some (.iaload, 1, 0, 0, 0) from rfl) (show 0 ≤ (i + 1) ∧ (i + 1) < (L : Int) by omega) ?_
  have sr7 : rng (sc xs (i + 1)) := sc_rng
  refine z_aload_n X (x := q1) (show cdA 350 1085 = some (.aload_n 0, 1, 0, 0, 0) from rfl) (List.Mem.head _) ?_
  refine z_load X (x := i) (show cdA 350 1086 = some (.iload 4, 2, 0, 0, 0) from rfl) (List.Mem.tail _ (List.Mem.tail _ (List.Mem.tail _ (List.Mem.tail _ (List.Mem.head _))))) ?_
  refine z_const X (show cdA 350 1088 = some (.iconst 2, 1, 0, 0, 0) from rfl) ?_
  refine z_add X (show cdA 350 1089 = some (.iadd, 1, 0, 0, 0) from rfl) ?_
  refine z_sld X S hL (show cdA 350 1090 = some (.iaload, 1, 0, 0, 0) from rfl) (show 0 ≤ (i + 2) ∧ (i + 2) < (L : Int) by omega) ?_
  have sr8 : rng (sc xs (i + 2)) := sc_rng
  refine z_aload_n X (x := A 517) (show cdA 350 1091 = some (.aload_n 3, 1, 0, 0, 0) from rfl) (List.Mem.tail _ (List.Mem.tail _ (List.Mem.tail _ (List.Mem.head _)))) ?_
  refine z_callL X (rm := rmN 333) (As := [.ref (A 0), .int (Int32.ofInt (sc xs (i + 1))), .int (Int32.ofInt (sc xs (i + 2))), .ref (A 517)]) (st := []) (show cdA 350 1092 = some (.invokestatic 222, 3, 333, 6, 0) from rfl) (by decide) rfl (by rw [E.1, E.2.1, E.2.2.1]; exact lw_parted G I (by omega) (by omega)) ⟨by rw [E.2.2.2]; exact (show 35 + 1 ≤ 2048 by omega), by rw [E.2.2.2]; exact (show 8 + (5 + 11) + 1468 ≤ 84000 by omega), by rw [E.2.2.2]; exact (show ce + 2 ≤ 601024 by omega), by rw [E.2.2.2]; exact (show sl + 12 ≤ 7293034 by omega)⟩ (Nat.le_of_ble_eq_true rfl) (fun vv A s9 hA2 hq => ?_) (fun ee A s9 hA2 hq => ?_)
  rotate_left
  · obtain ⟨Is9, Fs9, e10, hv, hrs9, hps9⟩ := hq; cases hv
  obtain ⟨Is9, Fs9, e10, hv, hrs9, hps9⟩ := hq
  cases hv
  rw [← hA2 0 (by decide)]
  rw [← hA2 179 (by decide)]
  rw [← hA2 517 (by decide)]
  have Gs9 := fm_ts F Fs9 (by decide) (by decide)
  have JRLx_s9 : RLx s9 := RLx_fm Fs9 (by decide) jR
  have JFEQ_s9 : FEQ s9 := FEQ_fm Fs9 (by decide) jFEQ
  have ws9_0 : iI s9 0 = iI s 0 := fm_i Fs9 (by decide)
  have ws9_74 : iI s9 74 = iI s 74 := fm_i Fs9 (by decide)
  have ws9_9 : iI s9 9 = iI s 9 := fm_i Fs9 (by decide)
  have ws9_90 : iI s9 90 = iI s 90 := fm_i Fs9 (by decide)
  have ws9_12 : iI s9 12 = iI s 12 := fm_i Fs9 (by decide)
  have ws9_89 : iI s9 89 = iI s 89 := fm_i Fs9 (by decide)
  show WS k 1095 [(0, .ref q1), (1, .ref (A 0)), (2, .ref (A 179)), (3, .ref (A 517)), (4, .int (Int32.ofInt i))] [.int (Int32.ofInt e10)] (Wd A dT s9) (ce + 2) (sl + 12)
  refine z_store X (lv' := [(5, .int (Int32.ofInt e10)), (0, .ref q1), (1, .ref (A 0)), (2, .ref (A 179)), (3, .ref (A 517)), (4, .int (Int32.ofInt i))]) (show cdA 350 1095 = some (.istore 5, 2, 0, 0, 0) from rfl) (by decide) (fun _ h => h) ?_
  refine z_aload_n X (x := A 179) (show cdA 350 1097 = some (.aload_n 2, 1, 0, 0, 0) from rfl) (List.Mem.tail _ (List.Mem.tail _ (List.Mem.tail _ (List.Mem.head _)))) ?_
  refine z_aload_n X (x := q1) (show cdA 350 1098 = some (.aload_n 0, 1, 0, 0, 0) from rfl) (List.Mem.tail _ (List.Mem.head _)) ?_
  refine z_load X (x := i) (show cdA 350 1099 = some (.iload 4, 2, 0, 0, 0) from rfl) (List.Mem.tail _ (List.Mem.tail _ (List.Mem.tail _ (List.Mem.tail _ (List.Mem.tail _ (List.Mem.head _)))))) ?_
  refine z_const X (show cdA 350 1101 = some (.iconst 1, 1, 0, 0, 0) from rfl) ?_
  refine z_add X (show cdA 350 1102 = some (.iadd, 1, 0, 0, 0) from rfl) ?_
  refine z_sld X S hL (show cdA 350 1103 = some (.iaload, 1, 0, 0, 0) from rfl) (show 0 ≤ (i + 1) ∧ (i + 1) < (L : Int) by omega) ?_
  have sr11 : rng (sc xs (i + 1)) := sc_rng
  refine z_aload_n X (x := q1) (show cdA 350 1104 = some (.aload_n 0, 1, 0, 0, 0) from rfl) (List.Mem.tail _ (List.Mem.head _)) ?_
  refine z_load X (x := i) (show cdA 350 1105 = some (.iload 4, 2, 0, 0, 0) from rfl) (List.Mem.tail _ (List.Mem.tail _ (List.Mem.tail _ (List.Mem.tail _ (List.Mem.tail _ (List.Mem.head _)))))) ?_
  refine z_const X (show cdA 350 1107 = some (.iconst 2, 1, 0, 0, 0) from rfl) ?_
  refine z_add X (show cdA 350 1108 = some (.iadd, 1, 0, 0, 0) from rfl) ?_
  refine z_sld X S hL (show cdA 350 1109 = some (.iaload, 1, 0, 0, 0) from rfl) (show 0 ≤ (i + 2) ∧ (i + 2) < (L : Int) by omega) ?_
  have sr12 : rng (sc xs (i + 2)) := sc_rng
  refine z_callV X 179 (rm := rmN 263) (As := [.int (Int32.ofInt (sc xs (i + 1))), .int (Int32.ofInt (sc xs (i + 2)))]) (st := []) (show cdA 350 1110 = some (.invokevirtual 224, 3, 263, 0, 0) from rfl) rfl (by decide) rfl (by rw [E.1, E.2.1, E.2.2.1]; exact k_parted G Is9 JRLx_s9 (by first | exact ⟨sr11.1, sr11.2⟩ | omega) (by first | exact ⟨sr12.1, sr12.2⟩ | omega)) ⟨by rw [E.2.2.2]; exact (show 38 + 1 ≤ 2048 by omega), by rw [E.2.2.2]; exact (show 8 + (3 + 11) + 1601 ≤ 84000 by omega), by rw [E.2.2.2]; exact (show (ce + 2) + 0 ≤ 601024 by omega), by rw [E.2.2.2]; exact (show (sl + 12) + 0 ≤ 7293034 by omega)⟩ (Nat.le_of_ble_eq_true rfl) (fun vv s13 hq => ?_) (fun ee s13 hq => ?_)
  rotate_left
  · obtain ⟨Is13, Fs13, JRLx_s13, e14, hv, hrs13, hps13⟩ := hq; cases hv
  obtain ⟨Is13, Fs13, JRLx_s13, e14, hv, hrs13, hps13⟩ := hq
  cases hv
  have Gs13 := fm_ts Gs9 Fs13 (by decide) (by decide)
  have JRLx_s13 : RLx s13 := RLx_fm Fs13 (by decide) JRLx_s9
  have JFEQ_s13 : FEQ s13 := FEQ_fm Fs13 (by decide) JFEQ_s9
  have ws13_0 : iI s13 0 = iI s9 0 := fm_i Fs13 (by decide)
  have ws13_74 : iI s13 74 = iI s9 74 := fm_i Fs13 (by decide)
  have ws13_9 : iI s13 9 = iI s9 9 := fm_i Fs13 (by decide)
  have ws13_90 : iI s13 90 = iI s9 90 := fm_i Fs13 (by decide)
  have ws13_12 : iI s13 12 = iI s9 12 := fm_i Fs13 (by decide)
  have ws13_89 : iI s13 89 = iI s9 89 := fm_i Fs13 (by decide)
  have wos13 : iO s13 = iO s9 := fm_o Fs13 (by decide)
  show WS k 1113 [(5, .int (Int32.ofInt e10)), (0, .ref q1), (1, .ref (A 0)), (2, .ref (A 179)), (3, .ref (A 517)), (4, .int (Int32.ofInt i))] [.int (Int32.ofInt e14)] (Wd A dT s13) (ce + 2) (sl + 12)
  refine z_store X (lv' := [(6, .int (Int32.ofInt e14)), (5, .int (Int32.ofInt e10)), (0, .ref q1), (1, .ref (A 0)), (2, .ref (A 179)), (3, .ref (A 517)), (4, .int (Int32.ofInt i))]) (show cdA 350 1113 = some (.istore 6, 2, 0, 0, 0) from rfl) (by decide) (fun _ h => h) ?_
  refine z_goto X (t := 1894) (show cdA 350 1115 = some (.goto 779, 3, 0, 0, 0) from rfl) (by decide) ?_
  refine w_widen (ce' := ce + 29) (sl' := sl + 222) (by omega) (by omega) ?_
  exact WS_lv (lv := [(0, .ref q1), (1, .ref (A 0)), (2, .ref (A 179)), (3, .ref (A 517)), (4, .int (Int32.ofInt i))]) (List.forall_mem_cons.mpr ⟨(List.Mem.tail _ (List.Mem.tail _ (List.Mem.head _))), (List.forall_mem_cons.mpr ⟨(List.Mem.tail _ (List.Mem.tail _ (List.Mem.tail _ (List.Mem.head _)))), (List.forall_mem_cons.mpr ⟨(List.Mem.tail _ (List.Mem.tail _ (List.Mem.tail _ (List.Mem.tail _ (List.Mem.head _))))), (List.forall_mem_cons.mpr ⟨(List.Mem.tail _ (List.Mem.tail _ (List.Mem.tail _ (List.Mem.tail _ (List.Mem.tail _ (List.Mem.head _)))))), (List.forall_mem_cons.mpr ⟨(List.Mem.tail _ (List.Mem.tail _ (List.Mem.tail _ (List.Mem.tail _ (List.Mem.tail _ (List.Mem.tail _ (List.Mem.head _))))))), (fun q h => absurd h List.not_mem_nil)⟩)⟩)⟩)⟩)⟩) (hk A _ Is13 JRLx_s13 JFEQ_s13 (by omega) (by omega) (by omega) (by omega))
theorem lc_24 (G : GX l s0 D tys a0 dT) (GR : RS0 s0) (SF : SF0 s0) (GT : TXs0 s0) (GW : TXw0 s0) {k : kx_T} (X : AX k 350 dT) (E : kL k = l ∧ kS0 k = s0 ∧ kD k = D ∧ kR k = room_1) {q1 L : Nat} {xs : Nat → Int32} (S : SX k q1 L xs) (hL : L ≤ 3072) (I : Bd s) (jR : RLx s) (jFEQ : FEQ s) (p1 : iI s 89 = 1) (p2 : iI s 12 ≤ 8) (p3 : iI s 0 = iI s 74) (p4 : iI s 9 = iI s 90) {i : Int} (hi : 0 ≤ i ∧ i + 6 ≤ (L : Int)) {ce sl : Nat} (hce : ce + 29 ≤ 601024) (hsl : sl + 222 ≤ 7293034) (hk : ∀ (A : Nat → Nat) (t : PS), Bd t → RLx t → FEQ t → iI t 89 = 1 → iI t 12 ≤ 8 → iI t 0 = iI t 74 → iI t 9 = iI t 90 → WS k 1894 [(0, .ref q1), (1, .ref (A 0)), (2, .ref (A 179)), (3, .ref (A 517)), (4, .int (Int32.ofInt i))] [] (Wd A dT t) (ce + 29) (sl + 222)) : WS k 1118 [(0, .ref q1), (1, .ref (A 0)), (2, .ref (A 179)), (3, .ref (A 517)), (4, .int (Int32.ofInt i))] [] (Wd A dT s) ce sl := by
  have F : Fm [28, 73, 97] [] s s := fm_rf _ _ s
  have b1 : (0 : Int) ≤ iI s 0 ∧ iI s 0 ≤ 200 := I.1 0
  have b2 : (0 : Int) ≤ iI s 74 ∧ iI s 74 ≤ 200 := I.1 74
  have b3 : (0 : Int) ≤ iI s 9 ∧ iI s 9 ≤ 12 := I.1 9
  have b4 : (0 : Int) ≤ iI s 90 ∧ iI s 90 ≤ 12 := I.1 90
  have b5 : (0 : Int) ≤ iI s 12 ∧ iI s 12 ≤ 9 := I.1 12
  have b6 : (1 : Int) ≤ iI s 89 ∧ iI s 89 ≤ 8 := I.1 89
  refine z_aload_n X (x := A 0) (show cdA 350 1118 = some (.aload_n 1, 1, 0, 0, 0) from rfl) (List.Mem.tail _ (List.Mem.head _)) ?_
  refine z_callV X 0 (rm := rmN 159) (As := []) (st := []) (show cdA 350 1119 = some (.invokevirtual 225, 3, 159, 0, 0) from rfl) rfl (by decide) rfl (by rw [E.1, E.2.1, E.2.2.1]; exact cs_clear G I ) ⟨by rw [E.2.2.2]; exact (show 6 + 1 ≤ 2048 by omega), by rw [E.2.2.2]; exact (show 8 + (2 + 11) + 100 ≤ 84000 by omega), by rw [E.2.2.2]; exact (show ce + 0 ≤ 601024 by omega), by rw [E.2.2.2]; exact (show sl + 0 ≤ 7293034 by omega)⟩ (Nat.le_of_ble_eq_true rfl) (fun vv s7 hq => ?_) (fun ee s7 hq => ?_)
  rotate_left
  · obtain ⟨Is7, Fs7, e8, hv, hrs7, hps7⟩ := hq; cases hv
  obtain ⟨Is7, Fs7, e8, hv, hrs7, hps7⟩ := hq
  cases hv
  have Gs7 := fm_ts F Fs7 (by decide) (by decide)
  have JRLx_s7 : RLx s7 := RLx_fm Fs7 (by decide) jR
  have JFEQ_s7 : FEQ s7 := FEQ_fm Fs7 (by decide) jFEQ
  have ws7_0 : iI s7 0 = iI s 0 := fm_i Fs7 (by decide)
  have ws7_74 : iI s7 74 = iI s 74 := fm_i Fs7 (by decide)
  have ws7_9 : iI s7 9 = iI s 9 := fm_i Fs7 (by decide)
  have ws7_90 : iI s7 90 = iI s 90 := fm_i Fs7 (by decide)
  have ws7_12 : iI s7 12 = iI s 12 := fm_i Fs7 (by decide)
  have ws7_89 : iI s7 89 = iI s 89 := fm_i Fs7 (by decide)
  have wos7 : iO s7 = iO s := fm_o Fs7 (by decide)
  show WS k 1122 [(0, .ref q1), (1, .ref (A 0)), (2, .ref (A 179)), (3, .ref (A 517)), (4, .int (Int32.ofInt i))] [.int (Int32.ofInt e8)] (Wd A dT s7) ce sl
  refine w_pop X.1 (ax_d X (show cdA 350 1122 = some (.pop, 1, 0, 0, 0) from rfl)) rfl ?_
  refine z_aload_n X (x := A 179) (show cdA 350 1123 = some (.aload_n 2, 1, 0, 0, 0) from rfl) (List.Mem.tail _ (List.Mem.tail _ (List.Mem.head _))) ?_
  refine z_callV X 179 (rm := rmN 259) (As := []) (st := []) (show cdA 350 1124 = some (.invokevirtual 228, 3, 259, 0, 0) from rfl) rfl (by decide) rfl (by rw [E.1, E.2.1, E.2.2.1]; exact k_clear G Is7 ) ⟨by rw [E.2.2.2]; exact (show 6 + 1 ≤ 2048 by omega), by rw [E.2.2.2]; exact (show 8 + (2 + 11) + 100 ≤ 84000 by omega), by rw [E.2.2.2]; exact (show ce + 0 ≤ 601024 by omega), by rw [E.2.2.2]; exact (show sl + 0 ≤ 7293034 by omega)⟩ (Nat.le_of_ble_eq_true rfl) (fun vv s9 hq => ?_) (fun ee s9 hq => ?_)
  rotate_left
  · obtain ⟨Is9, Fs9, e10, hv, hrs9, hps9⟩ := hq; cases hv
  obtain ⟨Is9, Fs9, e10, hv, hrs9, hps9⟩ := hq
  cases hv
  have Gs9 := fm_ts Gs7 Fs9 (by decide) (by decide)
  have JRLx_s9 : RLx s9 := RLx_fm Fs9 (by decide) JRLx_s7
  have JFEQ_s9 : FEQ s9 := FEQ_fm Fs9 (by decide) JFEQ_s7
  have ws9_0 : iI s9 0 = iI s7 0 := fm_i Fs9 (by decide)
  have ws9_74 : iI s9 74 = iI s7 74 := fm_i Fs9 (by decide)
  have ws9_9 : iI s9 9 = iI s7 9 := fm_i Fs9 (by decide)
  have ws9_90 : iI s9 90 = iI s7 90 := fm_i Fs9 (by decide)
  have ws9_12 : iI s9 12 = iI s7 12 := fm_i Fs9 (by decide)
  have ws9_89 : iI s9 89 = iI s7 89 := fm_i Fs9 (by decide)
  have wos9 : iO s9 = iO s7 := fm_o Fs9 (by decide)
  show WS k 1127 [(0, .ref q1), (1, .ref (A 0)), (2, .ref (A 179)), (3, .ref (A 517)), (4, .int (Int32.ofInt i))] [.int (Int32.ofInt e10)] (Wd A dT s9) ce sl
  refine w_pop X.1 (ax_d X (show cdA 350 1127 = some (.pop, 1, 0, 0, 0) from rfl)) rfl ?_
  refine z_goto X (t := 1894) (show cdA 350 1128 = some (.goto 766, 3, 0, 0, 0) from rfl) (by decide) ?_
  refine w_widen (ce' := ce + 29) (sl' := sl + 222) (by omega) (by omega) ?_
  exact WS_lv (lv := [(0, .ref q1), (1, .ref (A 0)), (2, .ref (A 179)), (3, .ref (A 517)), (4, .int (Int32.ofInt i))]) (List.forall_mem_cons.mpr ⟨(List.Mem.head _), (List.forall_mem_cons.mpr ⟨(List.Mem.tail _ (List.Mem.head _)), (List.forall_mem_cons.mpr ⟨(List.Mem.tail _ (List.Mem.tail _ (List.Mem.head _))), (List.forall_mem_cons.mpr ⟨(List.Mem.tail _ (List.Mem.tail _ (List.Mem.tail _ (List.Mem.head _)))), (List.forall_mem_cons.mpr ⟨(List.Mem.tail _ (List.Mem.tail _ (List.Mem.tail _ (List.Mem.tail _ (List.Mem.head _))))), (fun q h => absurd h List.not_mem_nil)⟩)⟩)⟩)⟩)⟩) (hk A _ Is9 JRLx_s9 JFEQ_s9 (by omega) (by omega) (by omega) (by omega))
theorem lc_25 (G : GX l s0 D tys a0 dT) (GR : RS0 s0) (SF : SF0 s0) (GT : TXs0 s0) (GW : TXw0 s0) {k : kx_T} (X : AX k 350 dT) (E : kL k = l ∧ kS0 k = s0 ∧ kD k = D ∧ kR k = room_1) {q1 L : Nat} {xs : Nat → Int32} (S : SX k q1 L xs) (hL : L ≤ 3072) (I : Bd s) (jR : RLx s) (jFEQ : FEQ s) (p1 : iI s 89 = 1) (p2 : iI s 12 ≤ 8) (p3 : iI s 0 = iI s 74) (p4 : iI s 9 = iI s 90) {i : Int} (hi : 0 ≤ i ∧ i + 6 ≤ (L : Int)) {ce sl : Nat} (hce : ce + 29 ≤ 601024) (hsl : sl + 222 ≤ 7293034) (hk : ∀ (A : Nat → Nat) (t : PS), Bd t → RLx t → FEQ t → iI t 89 = 1 → iI t 12 ≤ 8 → iI t 0 = iI t 74 → iI t 9 = iI t 90 → WS k 1894 [(0, .ref q1), (1, .ref (A 0)), (2, .ref (A 179)), (3, .ref (A 517)), (4, .int (Int32.ofInt i))] [] (Wd A dT t) (ce + 29) (sl + 222)) : WS k 1131 [(0, .ref q1), (1, .ref (A 0)), (2, .ref (A 179)), (3, .ref (A 517)), (4, .int (Int32.ofInt i))] [] (Wd A dT s) ce sl := by
  have F : Fm [32, 73, 99] [46, 1460, 237] s s := fm_rf _ _ s
  have b1 : (0 : Int) ≤ iI s 0 ∧ iI s 0 ≤ 200 := I.1 0
  have b2 : (0 : Int) ≤ iI s 74 ∧ iI s 74 ≤ 200 := I.1 74
  have b3 : (0 : Int) ≤ iI s 9 ∧ iI s 9 ≤ 12 := I.1 9
  have b4 : (0 : Int) ≤ iI s 90 ∧ iI s 90 ≤ 12 := I.1 90
  have b5 : (0 : Int) ≤ iI s 12 ∧ iI s 12 ≤ 9 := I.1 12
  have b6 : (1 : Int) ≤ iI s 89 ∧ iI s 89 ≤ 8 := I.1 89
  refine z_aload_n X (x := A 0) (show cdA 350 1131 = some (.aload_n 1, 1, 0, 0, 0) from rfl) (List.Mem.tail _ (List.Mem.head _)) ?_
  refine z_aload_n X (x := q1) (show cdA 350 1132 = some (.aload_n 0, 1, 0, 0, 0) from rfl) (List.Mem.head _) ?_
  refine z_load X (x := i) (show cdA 350 1133 = some (.iload 4, 2, 0, 0, 0) from rfl) (List.Mem.tail _ (List.Mem.tail _ (List.Mem.tail _ (List.Mem.tail _ (List.Mem.head _))))) ?_
  refine z_const X (show cdA 350 1135 = some (.iconst 1, 1, 0, 0, 0) from rfl) ?_
  refine z_add X (show cdA 350 1136 = some (.iadd, 1, 0, 0, 0) from rfl) ?_
  refine z_sld X S hL (show cdA 350 1137 = some (.iaload, 1, 0, 0, 0) from rfl) (show 0 ≤ (i + 1) ∧ (i + 1) < (L : Int) by omega) ?_
  have sr7 : rng (sc xs (i + 1)) := sc_rng
  refine z_aload_n X (x := A 517) (show cdA 350 1138 = some (.aload_n 3, 1, 0, 0, 0) from rfl) (List.Mem.tail _ (List.Mem.tail _ (List.Mem.tail _ (List.Mem.head _)))) ?_
  refine z_callL X (rm := rmN 334) (As := [.ref (A 0), .int (Int32.ofInt (sc xs (i + 1))), .ref (A 517)]) (st := []) (show cdA 350 1139 = some (.invokestatic 229, 3, 334, 6, 0) from rfl) (by decide) rfl (by rw [E.1, E.2.1, E.2.2.1]; exact lw_configure G I (by omega)) ⟨by rw [E.2.2.2]; exact (show 8 + 1 ≤ 2048 by omega), by rw [E.2.2.2]; exact (show 8 + (4 + 11) + 144 ≤ 84000 by omega), by rw [E.2.2.2]; exact (show ce + 1 ≤ 601024 by omega), by rw [E.2.2.2]; exact (show sl + 6 ≤ 7293034 by omega)⟩ (Nat.le_of_ble_eq_true rfl) (fun vv A s8 hA2 hq => ?_) (fun ee A s8 hA2 hq => ?_)
  rotate_left
  · obtain ⟨Is8, Fs8, e9, hv, hrs8, hps8⟩ := hq; cases hv
  obtain ⟨Is8, Fs8, e9, hv, hrs8, hps8⟩ := hq
  cases hv
  rw [← hA2 0 (by decide)]
  rw [← hA2 179 (by decide)]
  rw [← hA2 517 (by decide)]
  have Gs8 := fm_ts F Fs8 (by decide) (by decide)
  have JRLx_s8 : RLx s8 := RLx_fm Fs8 (by decide) jR
  have JFEQ_s8 : FEQ s8 := FEQ_fm Fs8 (by decide) jFEQ
  have ws8_0 : iI s8 0 = iI s 0 := fm_i Fs8 (by decide)
  have ws8_74 : iI s8 74 = iI s 74 := fm_i Fs8 (by decide)
  have ws8_9 : iI s8 9 = iI s 9 := fm_i Fs8 (by decide)
  have ws8_90 : iI s8 90 = iI s 90 := fm_i Fs8 (by decide)
  have ws8_12 : iI s8 12 = iI s 12 := fm_i Fs8 (by decide)
  have ws8_89 : iI s8 89 = iI s 89 := fm_i Fs8 (by decide)
  show WS k 1142 [(0, .ref q1), (1, .ref (A 0)), (2, .ref (A 179)), (3, .ref (A 517)), (4, .int (Int32.ofInt i))] [.int (Int32.ofInt e9)] (Wd A dT s8) (ce + 1) (sl + 6)
  refine z_store X (lv' := [(5, .int (Int32.ofInt e9)), (0, .ref q1), (1, .ref (A 0)), (2, .ref (A 179)), (3, .ref (A 517)), (4, .int (Int32.ofInt i))]) (show cdA 350 1142 = some (.istore 5, 2, 0, 0, 0) from rfl) (by decide) (fun _ h => h) ?_
  refine z_aload_n X (x := A 179) (show cdA 350 1144 = some (.aload_n 2, 1, 0, 0, 0) from rfl) (List.Mem.tail _ (List.Mem.tail _ (List.Mem.tail _ (List.Mem.head _)))) ?_
  refine z_aload_n X (x := q1) (show cdA 350 1145 = some (.aload_n 0, 1, 0, 0, 0) from rfl) (List.Mem.tail _ (List.Mem.head _)) ?_
  refine z_load X (x := i) (show cdA 350 1146 = some (.iload 4, 2, 0, 0, 0) from rfl) (List.Mem.tail _ (List.Mem.tail _ (List.Mem.tail _ (List.Mem.tail _ (List.Mem.tail _ (List.Mem.head _)))))) ?_
  refine z_const X (show cdA 350 1148 = some (.iconst 1, 1, 0, 0, 0) from rfl) ?_
  refine z_add X (show cdA 350 1149 = some (.iadd, 1, 0, 0, 0) from rfl) ?_
  refine z_sld X S hL (show cdA 350 1150 = some (.iaload, 1, 0, 0, 0) from rfl) (show 0 ≤ (i + 1) ∧ (i + 1) < (L : Int) by omega) ?_
  have sr10 : rng (sc xs (i + 1)) := sc_rng
  refine z_callV X 179 (rm := rmN 264) (As := [.int (Int32.ofInt (sc xs (i + 1)))]) (st := []) (show cdA 350 1151 = some (.invokevirtual 231, 3, 264, 0, 0) from rfl) rfl (by decide) rfl (by rw [E.1, E.2.1, E.2.2.1]; exact k_configure G Is8 (by first | exact ⟨sr10.1, sr10.2⟩ | omega)) ⟨by rw [E.2.2.2]; exact (show 7 + 1 ≤ 2048 by omega), by rw [E.2.2.2]; exact (show 8 + (2 + 11) + 122 ≤ 84000 by omega), by rw [E.2.2.2]; exact (show (ce + 1) + 0 ≤ 601024 by omega), by rw [E.2.2.2]; exact (show (sl + 6) + 0 ≤ 7293034 by omega)⟩ (Nat.le_of_ble_eq_true rfl) (fun vv s11 hq => ?_) (fun ee s11 hq => ?_)
  rotate_left
  · obtain ⟨Is11, Fs11, e12, hv, hrs11, hps11⟩ := hq; cases hv
  obtain ⟨Is11, Fs11, e12, hv, hrs11, hps11⟩ := hq
  cases hv
  have Gs11 := fm_ts Gs8 Fs11 (by decide) (by decide)
  have JRLx_s11 : RLx s11 := RLx_fm Fs11 (by decide) JRLx_s8
  have JFEQ_s11 : FEQ s11 := FEQ_fm Fs11 (by decide) JFEQ_s8
  have ws11_0 : iI s11 0 = iI s8 0 := fm_i Fs11 (by decide)
  have ws11_74 : iI s11 74 = iI s8 74 := fm_i Fs11 (by decide)
  have ws11_9 : iI s11 9 = iI s8 9 := fm_i Fs11 (by decide)
  have ws11_90 : iI s11 90 = iI s8 90 := fm_i Fs11 (by decide)
  have ws11_12 : iI s11 12 = iI s8 12 := fm_i Fs11 (by decide)
  have ws11_89 : iI s11 89 = iI s8 89 := fm_i Fs11 (by decide)
  have wos11 : iO s11 = iO s8 := fm_o Fs11 (by decide)
  show WS k 1154 [(5, .int (Int32.ofInt e9)), (0, .ref q1), (1, .ref (A 0)), (2, .ref (A 179)), (3, .ref (A 517)), (4, .int (Int32.ofInt i))] [.int (Int32.ofInt e12)] (Wd A dT s11) (ce + 1) (sl + 6)
  refine z_store X (lv' := [(6, .int (Int32.ofInt e12)), (5, .int (Int32.ofInt e9)), (0, .ref q1), (1, .ref (A 0)), (2, .ref (A 179)), (3, .ref (A 517)), (4, .int (Int32.ofInt i))]) (show cdA 350 1154 = some (.istore 6, 2, 0, 0, 0) from rfl) (by decide) (fun _ h => h) ?_
  refine z_goto X (t := 1894) (show cdA 350 1156 = some (.goto 738, 3, 0, 0, 0) from rfl) (by decide) ?_
  refine w_widen (ce' := ce + 29) (sl' := sl + 222) (by omega) (by omega) ?_
  exact WS_lv (lv := [(0, .ref q1), (1, .ref (A 0)), (2, .ref (A 179)), (3, .ref (A 517)), (4, .int (Int32.ofInt i))]) (List.forall_mem_cons.mpr ⟨(List.Mem.tail _ (List.Mem.tail _ (List.Mem.head _))), (List.forall_mem_cons.mpr ⟨(List.Mem.tail _ (List.Mem.tail _ (List.Mem.tail _ (List.Mem.head _)))), (List.forall_mem_cons.mpr ⟨(List.Mem.tail _ (List.Mem.tail _ (List.Mem.tail _ (List.Mem.tail _ (List.Mem.head _))))), (List.forall_mem_cons.mpr ⟨(List.Mem.tail _ (List.Mem.tail _ (List.Mem.tail _ (List.Mem.tail _ (List.Mem.tail _ (List.Mem.head _)))))), (List.forall_mem_cons.mpr ⟨(List.Mem.tail _ (List.Mem.tail _ (List.Mem.tail _ (List.Mem.tail _ (List.Mem.tail _ (List.Mem.tail _ (List.Mem.head _))))))), (fun q h => absurd h List.not_mem_nil)⟩)⟩)⟩)⟩)⟩) (hk A _ Is11 JRLx_s11 JFEQ_s11 (by omega) (by omega) (by omega) (by omega))
theorem lc_26 (G : GX l s0 D tys a0 dT) (GR : RS0 s0) (SF : SF0 s0) (GT : TXs0 s0) (GW : TXw0 s0) {k : kx_T} (X : AX k 350 dT) (E : kL k = l ∧ kS0 k = s0 ∧ kD k = D ∧ kR k = room_1) {q1 L : Nat} {xs : Nat → Int32} (S : SX k q1 L xs) (hL : L ≤ 3072) (I : Bd s) (jR : RLx s) (jFEQ : FEQ s) (p1 : iI s 89 = 1) (p2 : iI s 12 ≤ 8) (p3 : iI s 0 = iI s 74) (p4 : iI s 9 = iI s 90) {i : Int} (hi : 0 ≤ i ∧ i + 6 ≤ (L : Int)) {ce sl : Nat} (hce : ce + 29 ≤ 601024) (hsl : sl + 222 ≤ 7293034) (hk : ∀ (A : Nat → Nat) (t : PS), Bd t → RLx t → FEQ t → iI t 89 = 1 → iI t 12 ≤ 8 → iI t 0 = iI t 74 → iI t 9 = iI t 90 → WS k 1894 [(0, .ref q1), (1, .ref (A 0)), (2, .ref (A 179)), (3, .ref (A 517)), (4, .int (Int32.ofInt i))] [] (Wd A dT t) (ce + 29) (sl + 222)) : WS k 1159 [(0, .ref q1), (1, .ref (A 0)), (2, .ref (A 179)), (3, .ref (A 517)), (4, .int (Int32.ofInt i))] [] (Wd A dT s) ce sl := by
  have F : Fm [22, 23, 24, 73, 89, 77, 75, 78, 79, 80, 81] [33, 26, 27, 28, 29, 30, 31, 32, 20, 48, 47, 1460, 202, 204, 205, 206, 207, 208, 209, 210, 211, 212, 213, 214, 215, 216, 217, 218, 219, 220, 221, 222, 223, 224, 225, 226, 227, 203, 161, 230] s s := fm_rf _ _ s
  have b1 : (0 : Int) ≤ iI s 0 ∧ iI s 0 ≤ 200 := I.1 0
  have b2 : (0 : Int) ≤ iI s 74 ∧ iI s 74 ≤ 200 := I.1 74
  have b3 : (0 : Int) ≤ iI s 9 ∧ iI s 9 ≤ 12 := I.1 9
  have b4 : (0 : Int) ≤ iI s 90 ∧ iI s 90 ≤ 12 := I.1 90
  have b5 : (0 : Int) ≤ iI s 12 ∧ iI s 12 ≤ 9 := I.1 12
  have b6 : (1 : Int) ≤ iI s 89 ∧ iI s 89 ≤ 8 := I.1 89
  refine z_aload_n X (x := A 0) (show cdA 350 1159 = some (.aload_n 1, 1, 0, 0, 0) from rfl) (List.Mem.tail _ (List.Mem.head _)) ?_
  refine z_aload_n X (x := q1) (show cdA 350 1160 = some (.aload_n 0, 1, 0, 0, 0) from rfl) (List.Mem.head _) ?_
  refine z_load X (x := i) (show cdA 350 1161 = some (.iload 4, 2, 0, 0, 0) from rfl) (List.Mem.tail _ (List.Mem.tail _ (List.Mem.tail _ (List.Mem.tail _ (List.Mem.head _))))) ?_
  refine z_const X (show cdA 350 1163 = some (.iconst 1, 1, 0, 0, 0) from rfl) ?_
  refine z_add X (show cdA 350 1164 = some (.iadd, 1, 0, 0, 0) from rfl) ?_
  refine z_sld X S hL (show cdA 350 1165 = some (.iaload, 1, 0, 0, 0) from rfl) (show 0 ≤ (i + 1) ∧ (i + 1) < (L : Int) by omega) ?_
  have sr7 : rng (sc xs (i + 1)) := sc_rng
  refine z_aload_n X (x := q1) (show cdA 350 1166 = some (.aload_n 0, 1, 0, 0, 0) from rfl) (List.Mem.head _) ?_
  refine z_load X (x := i) (show cdA 350 1167 = some (.iload 4, 2, 0, 0, 0) from rfl) (List.Mem.tail _ (List.Mem.tail _ (List.Mem.tail _ (List.Mem.tail _ (List.Mem.head _))))) ?_
  refine z_const X (show cdA 350 1169 = some (.iconst 2, 1, 0, 0, 0) from rfl) ?_
  refine z_add X (show cdA 350 1170 = some (.iadd, 1, 0, 0, 0) from rfl) ?_
  refine z_sld X S hL (show cdA 350 1171 = some (.iaload, 1, 0, 0, 0) from rfl) (show 0 ≤ (i + 2) ∧ (i + 2) < (L : Int) by omega) ?_
  have sr8 : rng (sc xs (i + 2)) := sc_rng
  refine z_aload_n X (x := A 517) (show cdA 350 1172 = some (.aload_n 3, 1, 0, 0, 0) from rfl) (List.Mem.tail _ (List.Mem.tail _ (List.Mem.tail _ (List.Mem.head _)))) ?_
  refine z_callL X (rm := rmN 335) (As := [.ref (A 0), .int (Int32.ofInt (sc xs (i + 1))), .int (Int32.ofInt (sc xs (i + 2))), .ref (A 517)]) (st := []) (show cdA 350 1173 = some (.invokestatic 232, 3, 335, 6, 0) from rfl) (by decide) rfl (by rw [E.1, E.2.1, E.2.2.1]; exact lw_pairs G I (by omega) (by omega) (by omega)) ⟨by rw [E.2.2.2]; exact (show 12 + 1 ≤ 2048 by omega), by rw [E.2.2.2]; exact (show 8 + (5 + 11) + 248 ≤ 84000 by omega), by rw [E.2.2.2]; exact (show ce + 2 ≤ 601024 by omega), by rw [E.2.2.2]; exact (show sl + 12 ≤ 7293034 by omega)⟩ (Nat.le_of_ble_eq_true rfl) (fun vv A s9 hA2 hq => ?_) (fun ee A s9 hA2 hq => ?_)
  rotate_left
  · obtain ⟨Is9, Fs9, e10, hv, hrs9, hps9⟩ := hq; cases hv
  obtain ⟨Is9, Fs9, e10, hv, hrs9, hps9⟩ := hq
  cases hv
  rw [← hA2 0 (by decide)]
  rw [← hA2 179 (by decide)]
  rw [← hA2 517 (by decide)]
  have Gs9 := fm_ts F Fs9 (by decide) (by decide)
  have JRLx_s9 : RLx s9 := RLx_fm Fs9 (by decide) jR
  have JFEQ_s9 : FEQ s9 := FEQ_fm Fs9 (by decide) jFEQ
  have ws9_0 : iI s9 0 = iI s 0 := fm_i Fs9 (by decide)
  have ws9_74 : iI s9 74 = iI s 74 := fm_i Fs9 (by decide)
  have ws9_9 : iI s9 9 = iI s 9 := fm_i Fs9 (by decide)
  have ws9_90 : iI s9 90 = iI s 90 := fm_i Fs9 (by decide)
  have ws9_12 : iI s9 12 = iI s 12 := fm_i Fs9 (by decide)
  have ws9_89 : iI s9 89 = iI s 89 := fm_i Fs9 (by decide)
  show WS k 1176 [(0, .ref q1), (1, .ref (A 0)), (2, .ref (A 179)), (3, .ref (A 517)), (4, .int (Int32.ofInt i))] [.int (Int32.ofInt e10)] (Wd A dT s9) (ce + 2) (sl + 12)
  refine z_store X (lv' := [(5, .int (Int32.ofInt e10)), (0, .ref q1), (1, .ref (A 0)), (2, .ref (A 179)), (3, .ref (A 517)), (4, .int (Int32.ofInt i))]) (show cdA 350 1176 = some (.istore 5, 2, 0, 0, 0) from rfl) (by decide) (fun _ h => h) ?_
  refine z_aload_n X (x := A 179) (show cdA 350 1178 = some (.aload_n 2, 1, 0, 0, 0) from rfl) (List.Mem.tail _ (List.Mem.tail _ (List.Mem.tail _ (List.Mem.head _)))) ?_
  refine z_aload_n X (x := q1) (show cdA 350 1179 = some (.aload_n 0, 1, 0, 0, 0) from rfl) (List.Mem.tail _ (List.Mem.head _)) ?_
  refine z_load X (x := i) (show cdA 350 1180 = some (.iload 4, 2, 0, 0, 0) from rfl) (List.Mem.tail _ (List.Mem.tail _ (List.Mem.tail _ (List.Mem.tail _ (List.Mem.tail _ (List.Mem.head _)))))) ?_
  refine z_const X (show cdA 350 1182 = some (.iconst 1, 1, 0, 0, 0) from rfl) ?_
  refine z_add X (show cdA 350 1183 = some (.iadd, 1, 0, 0, 0) from rfl) ?_
  refine z_sld X S hL (show cdA 350 1184 = some (.iaload, 1, 0, 0, 0) from rfl) (show 0 ≤ (i + 1) ∧ (i + 1) < (L : Int) by omega) ?_
  have sr11 : rng (sc xs (i + 1)) := sc_rng
  refine z_aload_n X (x := q1) (show cdA 350 1185 = some (.aload_n 0, 1, 0, 0, 0) from rfl) (List.Mem.tail _ (List.Mem.head _)) ?_
  refine z_load X (x := i) (show cdA 350 1186 = some (.iload 4, 2, 0, 0, 0) from rfl) (List.Mem.tail _ (List.Mem.tail _ (List.Mem.tail _ (List.Mem.tail _ (List.Mem.tail _ (List.Mem.head _)))))) ?_
  refine z_const X (show cdA 350 1188 = some (.iconst 2, 1, 0, 0, 0) from rfl) ?_
  refine z_add X (show cdA 350 1189 = some (.iadd, 1, 0, 0, 0) from rfl) ?_
  refine z_sld X S hL (show cdA 350 1190 = some (.iaload, 1, 0, 0, 0) from rfl) (show 0 ≤ (i + 2) ∧ (i + 2) < (L : Int) by omega) ?_
  have sr12 : rng (sc xs (i + 2)) := sc_rng
  refine z_callV X 179 (rm := rmN 267) (As := [.int (Int32.ofInt (sc xs (i + 1))), .int (Int32.ofInt (sc xs (i + 2)))]) (st := []) (show cdA 350 1191 = some (.invokevirtual 234, 3, 267, 0, 0) from rfl) rfl (by decide) rfl (by rw [E.1, E.2.1, E.2.2.1]; exact k_pairs G Is9 JRLx_s9 (by first | exact ⟨sr11.1, sr11.2⟩ | omega) (by first | exact ⟨sr12.1, sr12.2⟩ | omega)) ⟨by rw [E.2.2.2]; exact (show 62 + 1 ≤ 2048 by omega), by rw [E.2.2.2]; exact (show 8 + (3 + 11) + 2686 ≤ 84000 by omega), by rw [E.2.2.2]; exact (show (ce + 2) + 0 ≤ 601024 by omega), by rw [E.2.2.2]; exact (show (sl + 12) + 0 ≤ 7293034 by omega)⟩ (Nat.le_of_ble_eq_true rfl) (fun vv s13 hq => ?_) (fun ee s13 hq => ?_)
  rotate_left
  · obtain ⟨Is13, Fs13, JRLx_s13, e14, hv, hrs13, hps13⟩ := hq; cases hv
  obtain ⟨Is13, Fs13, JRLx_s13, e14, hv, hrs13, hps13⟩ := hq
  cases hv
  have Gs13 := fm_ts Gs9 Fs13 (by decide) (by decide)
  have JRLx_s13 : RLx s13 := RLx_fm Fs13 (by decide) JRLx_s9
  have JFEQ_s13 : FEQ s13 := FEQ_fm Fs13 (by decide) JFEQ_s9
  have ws13_0 : iI s13 0 = iI s9 0 := fm_i Fs13 (by decide)
  have ws13_74 : iI s13 74 = iI s9 74 := fm_i Fs13 (by decide)
  have ws13_9 : iI s13 9 = iI s9 9 := fm_i Fs13 (by decide)
  have ws13_90 : iI s13 90 = iI s9 90 := fm_i Fs13 (by decide)
  have ws13_12 : iI s13 12 = iI s9 12 := fm_i Fs13 (by decide)
  have b15 : (1 : Int) ≤ iI s13 89 ∧ iI s13 89 ≤ 8 := Is13.1 89
  have wos13 : iO s13 = iO s9 := fm_o Fs13 (by decide)
  replace hps13 := hps13 (by clear hps13; omega)
  show WS k 1194 [(5, .int (Int32.ofInt e10)), (0, .ref q1), (1, .ref (A 0)), (2, .ref (A 179)), (3, .ref (A 517)), (4, .int (Int32.ofInt i))] [.int (Int32.ofInt e14)] (Wd A dT s13) (ce + 2) (sl + 12)
  refine z_store X (lv' := [(6, .int (Int32.ofInt e14)), (5, .int (Int32.ofInt e10)), (0, .ref q1), (1, .ref (A 0)), (2, .ref (A 179)), (3, .ref (A 517)), (4, .int (Int32.ofInt i))]) (show cdA 350 1194 = some (.istore 6, 2, 0, 0, 0) from rfl) (by decide) (fun _ h => h) ?_
  refine z_goto X (t := 1894) (show cdA 350 1196 = some (.goto 698, 3, 0, 0, 0) from rfl) (by decide) ?_
  refine w_widen (ce' := ce + 29) (sl' := sl + 222) (by first | (clear hps13; omega) | omega) (by first | (clear hps13; omega) | omega) ?_
  exact WS_lv (lv := [(0, .ref q1), (1, .ref (A 0)), (2, .ref (A 179)), (3, .ref (A 517)), (4, .int (Int32.ofInt i))]) (List.forall_mem_cons.mpr ⟨(List.Mem.tail _ (List.Mem.tail _ (List.Mem.head _))), (List.forall_mem_cons.mpr ⟨(List.Mem.tail _ (List.Mem.tail _ (List.Mem.tail _ (List.Mem.head _)))), (List.forall_mem_cons.mpr ⟨(List.Mem.tail _ (List.Mem.tail _ (List.Mem.tail _ (List.Mem.tail _ (List.Mem.head _))))), (List.forall_mem_cons.mpr ⟨(List.Mem.tail _ (List.Mem.tail _ (List.Mem.tail _ (List.Mem.tail _ (List.Mem.tail _ (List.Mem.head _)))))), (List.forall_mem_cons.mpr ⟨(List.Mem.tail _ (List.Mem.tail _ (List.Mem.tail _ (List.Mem.tail _ (List.Mem.tail _ (List.Mem.tail _ (List.Mem.head _))))))), (fun q h => absurd h List.not_mem_nil)⟩)⟩)⟩)⟩)⟩) (hk A _ Is13 JRLx_s13 JFEQ_s13 (by first | (clear hps13; omega) | omega) (by first | (clear hps13; omega) | omega) (by first | (clear hps13; omega) | omega) (by first | (clear hps13; omega) | omega))
theorem lc_27 (G : GX l s0 D tys a0 dT) (GR : RS0 s0) (SF : SF0 s0) (GT : TXs0 s0) (GW : TXw0 s0) {k : kx_T} (X : AX k 350 dT) (E : kL k = l ∧ kS0 k = s0 ∧ kD k = D ∧ kR k = room_1) {q1 L : Nat} {xs : Nat → Int32} (S : SX k q1 L xs) (hL : L ≤ 3072) (I : Bd s) (jR : RLx s) (jFEQ : FEQ s) (p1 : iI s 89 = 1) (p2 : iI s 12 ≤ 8) (p3 : iI s 0 = iI s 74) (p4 : iI s 9 = iI s 90) {i : Int} (hi : 0 ≤ i ∧ i + 6 ≤ (L : Int)) {ce sl : Nat} (hce : ce + 29 ≤ 601024) (hsl : sl + 222 ≤ 7293034) (hk : ∀ (A : Nat → Nat) (t : PS), Bd t → RLx t → FEQ t → iI t 89 = 1 → iI t 12 ≤ 8 → iI t 0 = iI t 74 → iI t 9 = iI t 90 → WS k 1894 [(0, .ref q1), (1, .ref (A 0)), (2, .ref (A 179)), (3, .ref (A 517)), (4, .int (Int32.ofInt i))] [] (Wd A dT t) (ce + 29) (sl + 222)) : WS k 1199 [(0, .ref q1), (1, .ref (A 0)), (2, .ref (A 179)), (3, .ref (A 517)), (4, .int (Int32.ofInt i))] [] (Wd A dT s) ce sl := by
  have F : Fm [33, 73, 96] [1460] s s := fm_rf _ _ s
  have b1 : (0 : Int) ≤ iI s 0 ∧ iI s 0 ≤ 200 := I.1 0
  have b2 : (0 : Int) ≤ iI s 74 ∧ iI s 74 ≤ 200 := I.1 74
  have b3 : (0 : Int) ≤ iI s 9 ∧ iI s 9 ≤ 12 := I.1 9
  have b4 : (0 : Int) ≤ iI s 90 ∧ iI s 90 ≤ 12 := I.1 90
  have b5 : (0 : Int) ≤ iI s 12 ∧ iI s 12 ≤ 9 := I.1 12
  have b6 : (1 : Int) ≤ iI s 89 ∧ iI s 89 ≤ 8 := I.1 89
  refine z_aload_n X (x := A 0) (show cdA 350 1199 = some (.aload_n 1, 1, 0, 0, 0) from rfl) (List.Mem.tail _ (List.Mem.head _)) ?_
  refine z_aload_n X (x := q1) (show cdA 350 1200 = some (.aload_n 0, 1, 0, 0, 0) from rfl) (List.Mem.head _) ?_
  refine z_load X (x := i) (show cdA 350 1201 = some (.iload 4, 2, 0, 0, 0) from rfl) (List.Mem.tail _ (List.Mem.tail _ (List.Mem.tail _ (List.Mem.tail _ (List.Mem.head _))))) ?_
  refine z_const X (show cdA 350 1203 = some (.iconst 1, 1, 0, 0, 0) from rfl) ?_
  refine z_add X (show cdA 350 1204 = some (.iadd, 1, 0, 0, 0) from rfl) ?_
  refine z_sld X S hL (show cdA 350 1205 = some (.iaload, 1, 0, 0, 0) from rfl) (show 0 ≤ (i + 1) ∧ (i + 1) < (L : Int) by omega) ?_
  have sr7 : rng (sc xs (i + 1)) := sc_rng
  refine z_aload_n X (x := A 517) (show cdA 350 1206 = some (.aload_n 3, 1, 0, 0, 0) from rfl) (List.Mem.tail _ (List.Mem.tail _ (List.Mem.tail _ (List.Mem.head _)))) ?_
  refine z_callL X (rm := rmN 336) (As := [.ref (A 0), .int (Int32.ofInt (sc xs (i + 1))), .ref (A 517)]) (st := []) (show cdA 350 1207 = some (.invokestatic 235, 3, 336, 6, 0) from rfl) (by decide) rfl (by rw [E.1, E.2.1, E.2.2.1]; exact lw_busy G I (by omega)) ⟨by rw [E.2.2.2]; exact (show 8 + 1 ≤ 2048 by omega), by rw [E.2.2.2]; exact (show 8 + (4 + 11) + 145 ≤ 84000 by omega), by rw [E.2.2.2]; exact (show ce + 1 ≤ 601024 by omega), by rw [E.2.2.2]; exact (show sl + 6 ≤ 7293034 by omega)⟩ (Nat.le_of_ble_eq_true rfl) (fun vv A s8 hA2 hq => ?_) (fun ee A s8 hA2 hq => ?_)
  rotate_left
  · obtain ⟨Is8, Fs8, e9, hv, hrs8, hps8⟩ := hq; cases hv
  obtain ⟨Is8, Fs8, e9, hv, hrs8, hps8⟩ := hq
  cases hv
  rw [← hA2 0 (by decide)]
  rw [← hA2 179 (by decide)]
  rw [← hA2 517 (by decide)]
  have Gs8 := fm_ts F Fs8 (by decide) (by decide)
  have JRLx_s8 : RLx s8 := RLx_fm Fs8 (by decide) jR
  have JFEQ_s8 : FEQ s8 := FEQ_fm Fs8 (by decide) jFEQ
  have ws8_0 : iI s8 0 = iI s 0 := fm_i Fs8 (by decide)
  have ws8_74 : iI s8 74 = iI s 74 := fm_i Fs8 (by decide)
  have ws8_9 : iI s8 9 = iI s 9 := fm_i Fs8 (by decide)
  have ws8_90 : iI s8 90 = iI s 90 := fm_i Fs8 (by decide)
  have ws8_12 : iI s8 12 = iI s 12 := fm_i Fs8 (by decide)
  have ws8_89 : iI s8 89 = iI s 89 := fm_i Fs8 (by decide)
  show WS k 1210 [(0, .ref q1), (1, .ref (A 0)), (2, .ref (A 179)), (3, .ref (A 517)), (4, .int (Int32.ofInt i))] [.int (Int32.ofInt e9)] (Wd A dT s8) (ce + 1) (sl + 6)
  refine z_store X (lv' := [(5, .int (Int32.ofInt e9)), (0, .ref q1), (1, .ref (A 0)), (2, .ref (A 179)), (3, .ref (A 517)), (4, .int (Int32.ofInt i))]) (show cdA 350 1210 = some (.istore 5, 2, 0, 0, 0) from rfl) (by decide) (fun _ h => h) ?_
  refine z_aload_n X (x := A 179) (show cdA 350 1212 = some (.aload_n 2, 1, 0, 0, 0) from rfl) (List.Mem.tail _ (List.Mem.tail _ (List.Mem.tail _ (List.Mem.head _)))) ?_
  refine z_aload_n X (x := q1) (show cdA 350 1213 = some (.aload_n 0, 1, 0, 0, 0) from rfl) (List.Mem.tail _ (List.Mem.head _)) ?_
  refine z_load X (x := i) (show cdA 350 1214 = some (.iload 4, 2, 0, 0, 0) from rfl) (List.Mem.tail _ (List.Mem.tail _ (List.Mem.tail _ (List.Mem.tail _ (List.Mem.tail _ (List.Mem.head _)))))) ?_
  refine z_const X (show cdA 350 1216 = some (.iconst 1, 1, 0, 0, 0) from rfl) ?_
  refine z_add X (show cdA 350 1217 = some (.iadd, 1, 0, 0, 0) from rfl) ?_
  refine z_sld X S hL (show cdA 350 1218 = some (.iaload, 1, 0, 0, 0) from rfl) (show 0 ≤ (i + 1) ∧ (i + 1) < (L : Int) by omega) ?_
  have sr10 : rng (sc xs (i + 1)) := sc_rng
  refine z_callV X 179 (rm := rmN 268) (As := [.int (Int32.ofInt (sc xs (i + 1)))]) (st := []) (show cdA 350 1219 = some (.invokevirtual 237, 3, 268, 0, 0) from rfl) rfl (by decide) rfl (by rw [E.1, E.2.1, E.2.2.1]; exact k_busy G Is8 (by first | exact ⟨sr10.1, sr10.2⟩ | omega)) ⟨by rw [E.2.2.2]; exact (show 7 + 1 ≤ 2048 by omega), by rw [E.2.2.2]; exact (show 8 + (3 + 11) + 122 ≤ 84000 by omega), by rw [E.2.2.2]; exact (show (ce + 1) + 0 ≤ 601024 by omega), by rw [E.2.2.2]; exact (show (sl + 6) + 0 ≤ 7293034 by omega)⟩ (Nat.le_of_ble_eq_true rfl) (fun vv s11 hq => ?_) (fun ee s11 hq => ?_)
  rotate_left
  · obtain ⟨Is11, Fs11, e12, hv, hrs11, hps11⟩ := hq; cases hv
  obtain ⟨Is11, Fs11, e12, hv, hrs11, hps11⟩ := hq
  cases hv
  have Gs11 := fm_ts Gs8 Fs11 (by decide) (by decide)
  have JRLx_s11 : RLx s11 := RLx_fm Fs11 (by decide) JRLx_s8
  have JFEQ_s11 : FEQ s11 := FEQ_fm Fs11 (by decide) JFEQ_s8
  have ws11_0 : iI s11 0 = iI s8 0 := fm_i Fs11 (by decide)
  have ws11_74 : iI s11 74 = iI s8 74 := fm_i Fs11 (by decide)
  have ws11_9 : iI s11 9 = iI s8 9 := fm_i Fs11 (by decide)
  have ws11_90 : iI s11 90 = iI s8 90 := fm_i Fs11 (by decide)
  have ws11_12 : iI s11 12 = iI s8 12 := fm_i Fs11 (by decide)
  have ws11_89 : iI s11 89 = iI s8 89 := fm_i Fs11 (by decide)
  have wos11 : iO s11 = iO s8 := fm_o Fs11 (by decide)
  show WS k 1222 [(5, .int (Int32.ofInt e9)), (0, .ref q1), (1, .ref (A 0)), (2, .ref (A 179)), (3, .ref (A 517)), (4, .int (Int32.ofInt i))] [.int (Int32.ofInt e12)] (Wd A dT s11) (ce + 1) (sl + 6)
  refine z_store X (lv' := [(6, .int (Int32.ofInt e12)), (5, .int (Int32.ofInt e9)), (0, .ref q1), (1, .ref (A 0)), (2, .ref (A 179)), (3, .ref (A 517)), (4, .int (Int32.ofInt i))]) (show cdA 350 1222 = some (.istore 6, 2, 0, 0, 0) from rfl) (by decide) (fun _ h => h) ?_
  refine z_goto X (t := 1894) (show cdA 350 1224 = some (.goto 670, 3, 0, 0, 0) from rfl) (by decide) ?_
  refine w_widen (ce' := ce + 29) (sl' := sl + 222) (by omega) (by omega) ?_
  exact WS_lv (lv := [(0, .ref q1), (1, .ref (A 0)), (2, .ref (A 179)), (3, .ref (A 517)), (4, .int (Int32.ofInt i))]) (List.forall_mem_cons.mpr ⟨(List.Mem.tail _ (List.Mem.tail _ (List.Mem.head _))), (List.forall_mem_cons.mpr ⟨(List.Mem.tail _ (List.Mem.tail _ (List.Mem.tail _ (List.Mem.head _)))), (List.forall_mem_cons.mpr ⟨(List.Mem.tail _ (List.Mem.tail _ (List.Mem.tail _ (List.Mem.tail _ (List.Mem.head _))))), (List.forall_mem_cons.mpr ⟨(List.Mem.tail _ (List.Mem.tail _ (List.Mem.tail _ (List.Mem.tail _ (List.Mem.tail _ (List.Mem.head _)))))), (List.forall_mem_cons.mpr ⟨(List.Mem.tail _ (List.Mem.tail _ (List.Mem.tail _ (List.Mem.tail _ (List.Mem.tail _ (List.Mem.tail _ (List.Mem.head _))))))), (fun q h => absurd h List.not_mem_nil)⟩)⟩)⟩)⟩)⟩) (hk A _ Is11 JRLx_s11 JFEQ_s11 (by omega) (by omega) (by omega) (by omega))
theorem lc_28 (G : GX l s0 D tys a0 dT) (GR : RS0 s0) (SF : SF0 s0) (GT : TXs0 s0) (GW : TXw0 s0) {k : kx_T} (X : AX k 350 dT) (E : kL k = l ∧ kS0 k = s0 ∧ kD k = D ∧ kR k = room_1) {q1 L : Nat} {xs : Nat → Int32} (S : SX k q1 L xs) (hL : L ≤ 3072) (I : Bd s) (jR : RLx s) (jFEQ : FEQ s) (p1 : iI s 89 = 1) (p2 : iI s 12 ≤ 8) (p3 : iI s 0 = iI s 74) (p4 : iI s 9 = iI s 90) {i : Int} (hi : 0 ≤ i ∧ i + 6 ≤ (L : Int)) {ce sl : Nat} (hce : ce + 29 ≤ 601024) (hsl : sl + 222 ≤ 7293034) (hk : ∀ (A : Nat → Nat) (t : PS), Bd t → RLx t → FEQ t → iI t 89 = 1 → iI t 12 ≤ 8 → iI t 0 = iI t 74 → iI t 9 = iI t 90 → WS k 1894 [(0, .ref q1), (1, .ref (A 0)), (2, .ref (A 179)), (3, .ref (A 517)), (4, .int (Int32.ofInt i))] [] (Wd A dT t) (ce + 29) (sl + 222)) : WS k 1227 [(0, .ref q1), (1, .ref (A 0)), (2, .ref (A 179)), (3, .ref (A 517)), (4, .int (Int32.ofInt i))] [] (Wd A dT s) ce sl := by
  have F : Fm [22, 23, 24, 34, 35, 73, 77, 75, 78, 79, 80, 81, 89] [33, 26, 27, 28, 29, 30, 31, 32, 20, 48, 47, 49, 50, 51, 1460, 161, 230, 202, 204, 205, 206, 207, 208, 209, 210, 211, 212, 213, 214, 215, 216, 217, 218, 219, 220, 221, 222, 223, 224, 225, 226, 227, 203, 395, 396, 245, 246, 247, 248, 249, 250, 251, 252, 253, 254, 255, 256, 257, 258, 259, 260, 261, 262, 263, 264, 265, 266, 267, 268, 269, 270, 271, 272, 273, 274, 275, 276, 277, 278, 279, 280, 281, 282, 283, 284, 285, 286, 287, 288, 289, 290, 291, 292, 293, 294, 295, 296, 297, 298, 299, 300, 301, 302, 303, 304, 305, 306, 307, 308, 309, 310, 311, 312, 313, 314, 315, 316, 317, 318, 319, 320, 321, 322, 323, 324, 325, 326, 327, 328, 329, 330, 331, 332, 333, 334, 335, 336, 337, 338, 339, 340, 341, 342, 343, 344, 345, 346, 347, 348, 349, 350, 351, 352, 353, 354, 355, 356, 357, 358, 359, 360, 361, 362, 363, 364, 365, 366, 367, 368, 369, 370, 371, 372, 373, 374, 375, 376, 377, 378, 379, 380, 381, 382, 383, 384, 385, 386, 387, 388, 389, 390, 391, 392, 393, 394] s s := fm_rf _ _ s
  have b1 : (0 : Int) ≤ iI s 0 ∧ iI s 0 ≤ 200 := I.1 0
  have b2 : (0 : Int) ≤ iI s 74 ∧ iI s 74 ≤ 200 := I.1 74
  have b3 : (0 : Int) ≤ iI s 9 ∧ iI s 9 ≤ 12 := I.1 9
  have b4 : (0 : Int) ≤ iI s 90 ∧ iI s 90 ≤ 12 := I.1 90
  have b5 : (0 : Int) ≤ iI s 12 ∧ iI s 12 ≤ 9 := I.1 12
  have b6 : (1 : Int) ≤ iI s 89 ∧ iI s 89 ≤ 8 := I.1 89
  refine z_aload_n X (x := A 0) (show cdA 350 1227 = some (.aload_n 1, 1, 0, 0, 0) from rfl) (List.Mem.tail _ (List.Mem.head _)) ?_
  refine z_aload_n X (x := q1) (show cdA 350 1228 = some (.aload_n 0, 1, 0, 0, 0) from rfl) (List.Mem.head _) ?_
  refine z_load X (x := i) (show cdA 350 1229 = some (.iload 4, 2, 0, 0, 0) from rfl) (List.Mem.tail _ (List.Mem.tail _ (List.Mem.tail _ (List.Mem.tail _ (List.Mem.head _))))) ?_
  refine z_const X (show cdA 350 1231 = some (.iconst 1, 1, 0, 0, 0) from rfl) ?_
  refine z_add X (show cdA 350 1232 = some (.iadd, 1, 0, 0, 0) from rfl) ?_
  refine z_sld X S hL (show cdA 350 1233 = some (.iaload, 1, 0, 0, 0) from rfl) (show 0 ≤ (i + 1) ∧ (i + 1) < (L : Int) by omega) ?_
  have sr7 : rng (sc xs (i + 1)) := sc_rng
  refine z_aload_n X (x := q1) (show cdA 350 1234 = some (.aload_n 0, 1, 0, 0, 0) from rfl) (List.Mem.head _) ?_
  refine z_load X (x := i) (show cdA 350 1235 = some (.iload 4, 2, 0, 0, 0) from rfl) (List.Mem.tail _ (List.Mem.tail _ (List.Mem.tail _ (List.Mem.tail _ (List.Mem.head _))))) ?_
  refine z_const X (show cdA 350 1237 = some (.iconst 2, 1, 0, 0, 0) from rfl) ?_
  refine z_add X (show cdA 350 1238 = some (.iadd, 1, 0, 0, 0) from rfl) ?_
  refine z_sld X S hL (show cdA 350 1239 = some (.iaload, 1, 0, 0, 0) from rfl) (show 0 ≤ (i + 2) ∧ (i + 2) < (L : Int) by omega) ?_
  have sr8 : rng (sc xs (i + 2)) := sc_rng
  refine z_aload_n X (x := A 517) (show cdA 350 1240 = some (.aload_n 3, 1, 0, 0, 0) from rfl) (List.Mem.tail _ (List.Mem.tail _ (List.Mem.tail _ (List.Mem.head _)))) ?_
  refine z_callL X (rm := rmN 337) (As := [.ref (A 0), .int (Int32.ofInt (sc xs (i + 1))), .int (Int32.ofInt (sc xs (i + 2))), .ref (A 517)]) (st := []) (show cdA 350 1241 = some (.invokestatic 238, 3, 337, 6, 0) from rfl) (by decide) rfl (by rw [E.1, E.2.1, E.2.2.1]; exact lw_plan G I (by omega) (by omega) (by omega)) ⟨by rw [E.2.2.2]; exact (show 13 + 1 ≤ 2048 by omega), by rw [E.2.2.2]; exact (show 8 + (5 + 11) + 273 ≤ 84000 by omega), by rw [E.2.2.2]; exact (show ce + 2 ≤ 601024 by omega), by rw [E.2.2.2]; exact (show sl + 12 ≤ 7293034 by omega)⟩ (Nat.le_of_ble_eq_true rfl) (fun vv A s9 hA2 hq => ?_) (fun ee A s9 hA2 hq => ?_)
  rotate_left
  · obtain ⟨Is9, Fs9, e10, hv, hrs9, hps9⟩ := hq; cases hv
  obtain ⟨Is9, Fs9, e10, hv, hrs9, hps9⟩ := hq
  cases hv
  rw [← hA2 0 (by decide)]
  rw [← hA2 179 (by decide)]
  rw [← hA2 517 (by decide)]
  have Gs9 := fm_ts F Fs9 (by decide) (by decide)
  have JRLx_s9 : RLx s9 := RLx_fm Fs9 (by decide) jR
  have JFEQ_s9 : FEQ s9 := FEQ_fm Fs9 (by decide) jFEQ
  have ws9_0 : iI s9 0 = iI s 0 := fm_i Fs9 (by decide)
  have ws9_74 : iI s9 74 = iI s 74 := fm_i Fs9 (by decide)
  have ws9_9 : iI s9 9 = iI s 9 := fm_i Fs9 (by decide)
  have ws9_90 : iI s9 90 = iI s 90 := fm_i Fs9 (by decide)
  have ws9_12 : iI s9 12 = iI s 12 := fm_i Fs9 (by decide)
  have ws9_89 : iI s9 89 = iI s 89 := fm_i Fs9 (by decide)
  show WS k 1244 [(0, .ref q1), (1, .ref (A 0)), (2, .ref (A 179)), (3, .ref (A 517)), (4, .int (Int32.ofInt i))] [.int (Int32.ofInt e10)] (Wd A dT s9) (ce + 2) (sl + 12)
  refine z_store X (lv' := [(5, .int (Int32.ofInt e10)), (0, .ref q1), (1, .ref (A 0)), (2, .ref (A 179)), (3, .ref (A 517)), (4, .int (Int32.ofInt i))]) (show cdA 350 1244 = some (.istore 5, 2, 0, 0, 0) from rfl) (by decide) (fun _ h => h) ?_
  refine z_aload_n X (x := A 179) (show cdA 350 1246 = some (.aload_n 2, 1, 0, 0, 0) from rfl) (List.Mem.tail _ (List.Mem.tail _ (List.Mem.tail _ (List.Mem.head _)))) ?_
  refine z_aload_n X (x := q1) (show cdA 350 1247 = some (.aload_n 0, 1, 0, 0, 0) from rfl) (List.Mem.tail _ (List.Mem.head _)) ?_
  refine z_load X (x := i) (show cdA 350 1248 = some (.iload 4, 2, 0, 0, 0) from rfl) (List.Mem.tail _ (List.Mem.tail _ (List.Mem.tail _ (List.Mem.tail _ (List.Mem.tail _ (List.Mem.head _)))))) ?_
  refine z_const X (show cdA 350 1250 = some (.iconst 1, 1, 0, 0, 0) from rfl) ?_
  refine z_add X (show cdA 350 1251 = some (.iadd, 1, 0, 0, 0) from rfl) ?_
  refine z_sld X S hL (show cdA 350 1252 = some (.iaload, 1, 0, 0, 0) from rfl) (show 0 ≤ (i + 1) ∧ (i + 1) < (L : Int) by omega) ?_
  have sr11 : rng (sc xs (i + 1)) := sc_rng
  refine z_aload_n X (x := q1) (show cdA 350 1253 = some (.aload_n 0, 1, 0, 0, 0) from rfl) (List.Mem.tail _ (List.Mem.head _)) ?_
  refine z_load X (x := i) (show cdA 350 1254 = some (.iload 4, 2, 0, 0, 0) from rfl) (List.Mem.tail _ (List.Mem.tail _ (List.Mem.tail _ (List.Mem.tail _ (List.Mem.tail _ (List.Mem.head _)))))) ?_
  refine z_const X (show cdA 350 1256 = some (.iconst 2, 1, 0, 0, 0) from rfl) ?_
  refine z_add X (show cdA 350 1257 = some (.iadd, 1, 0, 0, 0) from rfl) ?_
  refine z_sld X S hL (show cdA 350 1258 = some (.iaload, 1, 0, 0, 0) from rfl) (show 0 ≤ (i + 2) ∧ (i + 2) < (L : Int) by omega) ?_
  have sr12 : rng (sc xs (i + 2)) := sc_rng
  refine z_callV X 179 (rm := rmN 272) (As := [.int (Int32.ofInt (sc xs (i + 1))), .int (Int32.ofInt (sc xs (i + 2)))]) (st := []) (show cdA 350 1259 = some (.invokevirtual 240, 3, 272, 0, 0) from rfl) rfl (by decide) rfl (by rw [E.1, E.2.1, E.2.2.1]; exact k_plan G Is9 JRLx_s9 (by first | exact ⟨sr11.1, sr11.2⟩ | omega) (by first | exact ⟨sr12.1, sr12.2⟩ | omega) (by omega)) ⟨by rw [E.2.2.2]; exact (show 64 + 1 ≤ 2048 by omega), by rw [E.2.2.2]; exact (show 8 + (6 + 11) + 2742 ≤ 84000 by omega), by rw [E.2.2.2]; exact (show (ce + 2) + 0 ≤ 601024 by omega), by rw [E.2.2.2]; exact (show (sl + 12) + 0 ≤ 7293034 by omega)⟩ (Nat.le_of_ble_eq_true rfl) (fun vv s13 hq => ?_) (fun ee s13 hq => ?_)
  rotate_left
  · obtain ⟨Is13, Fs13, JRLx_s13, e14, hv, hrs13, hps13⟩ := hq; cases hv
  obtain ⟨Is13, Fs13, JRLx_s13, e14, hv, hrs13, hps13⟩ := hq
  cases hv
  have Gs13 := fm_ts Gs9 Fs13 (by decide) (by decide +kernel)
  have JRLx_s13 : RLx s13 := RLx_fm Fs13 (by decide) JRLx_s9
  have JFEQ_s13 : FEQ s13 := FEQ_fm Fs13 (by decide) JFEQ_s9
  have ws13_0 : iI s13 0 = iI s9 0 := fm_i Fs13 (by decide)
  have ws13_74 : iI s13 74 = iI s9 74 := fm_i Fs13 (by decide)
  have ws13_9 : iI s13 9 = iI s9 9 := fm_i Fs13 (by decide)
  have ws13_90 : iI s13 90 = iI s9 90 := fm_i Fs13 (by decide)
  have ws13_12 : iI s13 12 = iI s9 12 := fm_i Fs13 (by decide)
  have b15 : (1 : Int) ≤ iI s13 89 ∧ iI s13 89 ≤ 8 := Is13.1 89
  have wos13 : iO s13 = iO s9 := fm_o Fs13 (by decide)
  show WS k 1262 [(5, .int (Int32.ofInt e10)), (0, .ref q1), (1, .ref (A 0)), (2, .ref (A 179)), (3, .ref (A 517)), (4, .int (Int32.ofInt i))] [.int (Int32.ofInt e14)] (Wd A dT s13) (ce + 2) (sl + 12)
  refine z_store X (lv' := [(6, .int (Int32.ofInt e14)), (5, .int (Int32.ofInt e10)), (0, .ref q1), (1, .ref (A 0)), (2, .ref (A 179)), (3, .ref (A 517)), (4, .int (Int32.ofInt i))]) (show cdA 350 1262 = some (.istore 6, 2, 0, 0, 0) from rfl) (by decide) (fun _ h => h) ?_
  refine z_goto X (t := 1894) (show cdA 350 1264 = some (.goto 630, 3, 0, 0, 0) from rfl) (by decide) ?_
  refine w_widen (ce' := ce + 29) (sl' := sl + 222) (by omega) (by omega) ?_
  exact WS_lv (lv := [(0, .ref q1), (1, .ref (A 0)), (2, .ref (A 179)), (3, .ref (A 517)), (4, .int (Int32.ofInt i))]) (List.forall_mem_cons.mpr ⟨(List.Mem.tail _ (List.Mem.tail _ (List.Mem.head _))), (List.forall_mem_cons.mpr ⟨(List.Mem.tail _ (List.Mem.tail _ (List.Mem.tail _ (List.Mem.head _)))), (List.forall_mem_cons.mpr ⟨(List.Mem.tail _ (List.Mem.tail _ (List.Mem.tail _ (List.Mem.tail _ (List.Mem.head _))))), (List.forall_mem_cons.mpr ⟨(List.Mem.tail _ (List.Mem.tail _ (List.Mem.tail _ (List.Mem.tail _ (List.Mem.tail _ (List.Mem.head _)))))), (List.forall_mem_cons.mpr ⟨(List.Mem.tail _ (List.Mem.tail _ (List.Mem.tail _ (List.Mem.tail _ (List.Mem.tail _ (List.Mem.tail _ (List.Mem.head _))))))), (fun q h => absurd h List.not_mem_nil)⟩)⟩)⟩)⟩)⟩) (hk A _ Is13 JRLx_s13 JFEQ_s13 (by omega) (by omega) (by omega) (by omega))
theorem lc_29 (G : GX l s0 D tys a0 dT) (GR : RS0 s0) (SF : SF0 s0) (GT : TXs0 s0) (GW : TXw0 s0) {k : kx_T} (X : AX k 350 dT) (E : kL k = l ∧ kS0 k = s0 ∧ kD k = D ∧ kR k = room_1) {q1 L : Nat} {xs : Nat → Int32} (S : SX k q1 L xs) (hL : L ≤ 3072) (I : Bd s) (jR : RLx s) (jFEQ : FEQ s) (p1 : iI s 89 = 1) (p2 : iI s 12 ≤ 8) (p3 : iI s 0 = iI s 74) (p4 : iI s 9 = iI s 90) {i : Int} (hi : 0 ≤ i ∧ i + 6 ≤ (L : Int)) {ce sl : Nat} (hce : ce + 29 ≤ 601024) (hsl : sl + 222 ≤ 7293034) (hk : ∀ (A : Nat → Nat) (t : PS), Bd t → RLx t → FEQ t → iI t 89 = 1 → iI t 12 ≤ 8 → iI t 0 = iI t 74 → iI t 9 = iI t 90 → WS k 1894 [(0, .ref q1), (1, .ref (A 0)), (2, .ref (A 179)), (3, .ref (A 517)), (4, .int (Int32.ofInt i))] [] (Wd A dT t) (ce + 29) (sl + 222)) : WS k 1267 [(0, .ref q1), (1, .ref (A 0)), (2, .ref (A 179)), (3, .ref (A 517)), (4, .int (Int32.ofInt i))] [] (Wd A dT s) ce sl := by
  have F : Fm [36, 37, 73, 102, 103] [1460] s s := fm_rf _ _ s
  have b1 : (0 : Int) ≤ iI s 0 ∧ iI s 0 ≤ 200 := I.1 0
  have b2 : (0 : Int) ≤ iI s 74 ∧ iI s 74 ≤ 200 := I.1 74
  have b3 : (0 : Int) ≤ iI s 9 ∧ iI s 9 ≤ 12 := I.1 9
  have b4 : (0 : Int) ≤ iI s 90 ∧ iI s 90 ≤ 12 := I.1 90
  have b5 : (0 : Int) ≤ iI s 12 ∧ iI s 12 ≤ 9 := I.1 12
  have b6 : (1 : Int) ≤ iI s 89 ∧ iI s 89 ≤ 8 := I.1 89
  refine z_aload_n X (x := A 0) (show cdA 350 1267 = some (.aload_n 1, 1, 0, 0, 0) from rfl) (List.Mem.tail _ (List.Mem.head _)) ?_
  refine z_aload_n X (x := q1) (show cdA 350 1268 = some (.aload_n 0, 1, 0, 0, 0) from rfl) (List.Mem.head _) ?_
  refine z_load X (x := i) (show cdA 350 1269 = some (.iload 4, 2, 0, 0, 0) from rfl) (List.Mem.tail _ (List.Mem.tail _ (List.Mem.tail _ (List.Mem.tail _ (List.Mem.head _))))) ?_
  refine z_const X (show cdA 350 1271 = some (.iconst 1, 1, 0, 0, 0) from rfl) ?_
  refine z_add X (show cdA 350 1272 = some (.iadd, 1, 0, 0, 0) from rfl) ?_
  refine z_sld X S hL (show cdA 350 1273 = some (.iaload, 1, 0, 0, 0) from rfl) (show 0 ≤ (i + 1) ∧ (i + 1) < (L : Int) by omega) ?_
  have sr7 : rng (sc xs (i + 1)) := sc_rng
  refine z_aload_n X (x := q1) (show cdA 350 1274 = some (.aload_n 0, 1, 0, 0, 0) from rfl) (List.Mem.head _) ?_
  refine z_load X (x := i) (show cdA 350 1275 = some (.iload 4, 2, 0, 0, 0) from rfl) (List.Mem.tail _ (List.Mem.tail _ (List.Mem.tail _ (List.Mem.tail _ (List.Mem.head _))))) ?_
  refine z_const X (show cdA 350 1277 = some (.iconst 2, 1, 0, 0, 0) from rfl) ?_
  refine z_add X (show cdA 350 1278 = some (.iadd, 1, 0, 0, 0) from rfl) ?_
  refine z_sld X S hL (show cdA 350 1279 = some (.iaload, 1, 0, 0, 0) from rfl) (show 0 ≤ (i + 2) ∧ (i + 2) < (L : Int) by omega) ?_
  have sr8 : rng (sc xs (i + 2)) := sc_rng
  refine z_aload_n X (x := A 517) (show cdA 350 1280 = some (.aload_n 3, 1, 0, 0, 0) from rfl) (List.Mem.tail _ (List.Mem.tail _ (List.Mem.tail _ (List.Mem.head _)))) ?_
  refine z_callL X (rm := rmN 338) (As := [.ref (A 0), .int (Int32.ofInt (sc xs (i + 1))), .int (Int32.ofInt (sc xs (i + 2))), .ref (A 517)]) (st := []) (show cdA 350 1281 = some (.invokestatic 241, 3, 338, 6, 0) from rfl) (by decide) rfl (by rw [E.1, E.2.1, E.2.2.1]; exact lw_hours G I (by omega) (by omega)) ⟨by rw [E.2.2.2]; exact (show 8 + 1 ≤ 2048 by omega), by rw [E.2.2.2]; exact (show 8 + (5 + 11) + 145 ≤ 84000 by omega), by rw [E.2.2.2]; exact (show ce + 2 ≤ 601024 by omega), by rw [E.2.2.2]; exact (show sl + 12 ≤ 7293034 by omega)⟩ (Nat.le_of_ble_eq_true rfl) (fun vv A s9 hA2 hq => ?_) (fun ee A s9 hA2 hq => ?_)
  rotate_left
  · obtain ⟨Is9, Fs9, e10, hv, hrs9, hps9⟩ := hq; cases hv
  obtain ⟨Is9, Fs9, e10, hv, hrs9, hps9⟩ := hq
  cases hv
  rw [← hA2 0 (by decide)]
  rw [← hA2 179 (by decide)]
  rw [← hA2 517 (by decide)]
  have Gs9 := fm_ts F Fs9 (by decide) (by decide)
  have JRLx_s9 : RLx s9 := RLx_fm Fs9 (by decide) jR
  have JFEQ_s9 : FEQ s9 := FEQ_fm Fs9 (by decide) jFEQ
  have ws9_0 : iI s9 0 = iI s 0 := fm_i Fs9 (by decide)
  have ws9_74 : iI s9 74 = iI s 74 := fm_i Fs9 (by decide)
  have ws9_9 : iI s9 9 = iI s 9 := fm_i Fs9 (by decide)
  have ws9_90 : iI s9 90 = iI s 90 := fm_i Fs9 (by decide)
  have ws9_12 : iI s9 12 = iI s 12 := fm_i Fs9 (by decide)
  have ws9_89 : iI s9 89 = iI s 89 := fm_i Fs9 (by decide)
  show WS k 1284 [(0, .ref q1), (1, .ref (A 0)), (2, .ref (A 179)), (3, .ref (A 517)), (4, .int (Int32.ofInt i))] [.int (Int32.ofInt e10)] (Wd A dT s9) (ce + 2) (sl + 12)
  refine z_store X (lv' := [(5, .int (Int32.ofInt e10)), (0, .ref q1), (1, .ref (A 0)), (2, .ref (A 179)), (3, .ref (A 517)), (4, .int (Int32.ofInt i))]) (show cdA 350 1284 = some (.istore 5, 2, 0, 0, 0) from rfl) (by decide) (fun _ h => h) ?_
  refine z_aload_n X (x := A 179) (show cdA 350 1286 = some (.aload_n 2, 1, 0, 0, 0) from rfl) (List.Mem.tail _ (List.Mem.tail _ (List.Mem.tail _ (List.Mem.head _)))) ?_
  refine z_aload_n X (x := q1) (show cdA 350 1287 = some (.aload_n 0, 1, 0, 0, 0) from rfl) (List.Mem.tail _ (List.Mem.head _)) ?_
  refine z_load X (x := i) (show cdA 350 1288 = some (.iload 4, 2, 0, 0, 0) from rfl) (List.Mem.tail _ (List.Mem.tail _ (List.Mem.tail _ (List.Mem.tail _ (List.Mem.tail _ (List.Mem.head _)))))) ?_
  refine z_const X (show cdA 350 1290 = some (.iconst 1, 1, 0, 0, 0) from rfl) ?_
  refine z_add X (show cdA 350 1291 = some (.iadd, 1, 0, 0, 0) from rfl) ?_
  refine z_sld X S hL (show cdA 350 1292 = some (.iaload, 1, 0, 0, 0) from rfl) (show 0 ≤ (i + 1) ∧ (i + 1) < (L : Int) by omega) ?_
  have sr11 : rng (sc xs (i + 1)) := sc_rng
  refine z_aload_n X (x := q1) (show cdA 350 1293 = some (.aload_n 0, 1, 0, 0, 0) from rfl) (List.Mem.tail _ (List.Mem.head _)) ?_
  refine z_load X (x := i) (show cdA 350 1294 = some (.iload 4, 2, 0, 0, 0) from rfl) (List.Mem.tail _ (List.Mem.tail _ (List.Mem.tail _ (List.Mem.tail _ (List.Mem.tail _ (List.Mem.head _)))))) ?_
  refine z_const X (show cdA 350 1296 = some (.iconst 2, 1, 0, 0, 0) from rfl) ?_
  refine z_add X (show cdA 350 1297 = some (.iadd, 1, 0, 0, 0) from rfl) ?_
  refine z_sld X S hL (show cdA 350 1298 = some (.iaload, 1, 0, 0, 0) from rfl) (show 0 ≤ (i + 2) ∧ (i + 2) < (L : Int) by omega) ?_
  have sr12 : rng (sc xs (i + 2)) := sc_rng
  refine z_callV X 179 (rm := rmN 273) (As := [.int (Int32.ofInt (sc xs (i + 1))), .int (Int32.ofInt (sc xs (i + 2)))]) (st := []) (show cdA 350 1299 = some (.invokevirtual 243, 3, 273, 0, 0) from rfl) rfl (by decide) rfl (by rw [E.1, E.2.1, E.2.2.1]; exact k_hours G Is9 (by first | exact ⟨sr11.1, sr11.2⟩ | omega) (by first | exact ⟨sr12.1, sr12.2⟩ | omega)) ⟨by rw [E.2.2.2]; exact (show 7 + 1 ≤ 2048 by omega), by rw [E.2.2.2]; exact (show 8 + (4 + 11) + 122 ≤ 84000 by omega), by rw [E.2.2.2]; exact (show (ce + 2) + 0 ≤ 601024 by omega), by rw [E.2.2.2]; exact (show (sl + 12) + 0 ≤ 7293034 by omega)⟩ (Nat.le_of_ble_eq_true rfl) (fun vv s13 hq => ?_) (fun ee s13 hq => ?_)
  rotate_left
  · obtain ⟨Is13, Fs13, e14, hv, hrs13, hps13⟩ := hq; cases hv
  obtain ⟨Is13, Fs13, e14, hv, hrs13, hps13⟩ := hq
  cases hv
  have Gs13 := fm_ts Gs9 Fs13 (by decide) (by decide)
  have JRLx_s13 : RLx s13 := RLx_fm Fs13 (by decide) JRLx_s9
  have JFEQ_s13 : FEQ s13 := FEQ_fm Fs13 (by decide) JFEQ_s9
  have ws13_0 : iI s13 0 = iI s9 0 := fm_i Fs13 (by decide)
  have ws13_74 : iI s13 74 = iI s9 74 := fm_i Fs13 (by decide)
  have ws13_9 : iI s13 9 = iI s9 9 := fm_i Fs13 (by decide)
  have ws13_90 : iI s13 90 = iI s9 90 := fm_i Fs13 (by decide)
  have ws13_12 : iI s13 12 = iI s9 12 := fm_i Fs13 (by decide)
  have ws13_89 : iI s13 89 = iI s9 89 := fm_i Fs13 (by decide)
  have wos13 : iO s13 = iO s9 := fm_o Fs13 (by decide)
  show WS k 1302 [(5, .int (Int32.ofInt e10)), (0, .ref q1), (1, .ref (A 0)), (2, .ref (A 179)), (3, .ref (A 517)), (4, .int (Int32.ofInt i))] [.int (Int32.ofInt e14)] (Wd A dT s13) (ce + 2) (sl + 12)
  refine z_store X (lv' := [(6, .int (Int32.ofInt e14)), (5, .int (Int32.ofInt e10)), (0, .ref q1), (1, .ref (A 0)), (2, .ref (A 179)), (3, .ref (A 517)), (4, .int (Int32.ofInt i))]) (show cdA 350 1302 = some (.istore 6, 2, 0, 0, 0) from rfl) (by decide) (fun _ h => h) ?_
  refine z_goto X (t := 1894) (show cdA 350 1304 = some (.goto 590, 3, 0, 0, 0) from rfl) (by decide) ?_
  refine w_widen (ce' := ce + 29) (sl' := sl + 222) (by omega) (by omega) ?_
  exact WS_lv (lv := [(0, .ref q1), (1, .ref (A 0)), (2, .ref (A 179)), (3, .ref (A 517)), (4, .int (Int32.ofInt i))]) (List.forall_mem_cons.mpr ⟨(List.Mem.tail _ (List.Mem.tail _ (List.Mem.head _))), (List.forall_mem_cons.mpr ⟨(List.Mem.tail _ (List.Mem.tail _ (List.Mem.tail _ (List.Mem.head _)))), (List.forall_mem_cons.mpr ⟨(List.Mem.tail _ (List.Mem.tail _ (List.Mem.tail _ (List.Mem.tail _ (List.Mem.head _))))), (List.forall_mem_cons.mpr ⟨(List.Mem.tail _ (List.Mem.tail _ (List.Mem.tail _ (List.Mem.tail _ (List.Mem.tail _ (List.Mem.head _)))))), (List.forall_mem_cons.mpr ⟨(List.Mem.tail _ (List.Mem.tail _ (List.Mem.tail _ (List.Mem.tail _ (List.Mem.tail _ (List.Mem.tail _ (List.Mem.head _))))))), (fun q h => absurd h List.not_mem_nil)⟩)⟩)⟩)⟩)⟩) (hk A _ Is13 JRLx_s13 JFEQ_s13 (by omega) (by omega) (by omega) (by omega))
theorem lc_30 (G : GX l s0 D tys a0 dT) (GR : RS0 s0) (SF : SF0 s0) (GT : TXs0 s0) (GW : TXw0 s0) {k : kx_T} (X : AX k 350 dT) (E : kL k = l ∧ kS0 k = s0 ∧ kD k = D ∧ kR k = room_1) {q1 L : Nat} {xs : Nat → Int32} (S : SX k q1 L xs) (hL : L ≤ 3072) (I : Bd s) (jR : RLx s) (jFEQ : FEQ s) (p1 : iI s 89 = 1) (p2 : iI s 12 ≤ 8) (p3 : iI s 0 = iI s 74) (p4 : iI s 9 = iI s 90) {i : Int} (hi : 0 ≤ i ∧ i + 6 ≤ (L : Int)) {ce sl : Nat} (hce : ce + 29 ≤ 601024) (hsl : sl + 222 ≤ 7293034) (hk : ∀ (A : Nat → Nat) (t : PS), Bd t → RLx t → FEQ t → iI t 89 = 1 → iI t 12 ≤ 8 → iI t 0 = iI t 74 → iI t 9 = iI t 90 → WS k 1894 [(0, .ref q1), (1, .ref (A 0)), (2, .ref (A 179)), (3, .ref (A 517)), (4, .int (Int32.ofInt i))] [] (Wd A dT t) (ce + 29) (sl + 222)) : WS k 1307 [(0, .ref q1), (1, .ref (A 0)), (2, .ref (A 179)), (3, .ref (A 517)), (4, .int (Int32.ofInt i))] [] (Wd A dT s) ce sl := by
  have F : Fm [73] [52, 1460, 398] s s := fm_rf _ _ s
  have b1 : (0 : Int) ≤ iI s 0 ∧ iI s 0 ≤ 200 := I.1 0
  have b2 : (0 : Int) ≤ iI s 74 ∧ iI s 74 ≤ 200 := I.1 74
  have b3 : (0 : Int) ≤ iI s 9 ∧ iI s 9 ≤ 12 := I.1 9
  have b4 : (0 : Int) ≤ iI s 90 ∧ iI s 90 ≤ 12 := I.1 90
  have b5 : (0 : Int) ≤ iI s 12 ∧ iI s 12 ≤ 9 := I.1 12
  have b6 : (1 : Int) ≤ iI s 89 ∧ iI s 89 ≤ 8 := I.1 89
  refine z_aload_n X (x := A 0) (show cdA 350 1307 = some (.aload_n 1, 1, 0, 0, 0) from rfl) (List.Mem.tail _ (List.Mem.head _)) ?_
  refine z_aload_n X (x := q1) (show cdA 350 1308 = some (.aload_n 0, 1, 0, 0, 0) from rfl) (List.Mem.head _) ?_
  refine z_load X (x := i) (show cdA 350 1309 = some (.iload 4, 2, 0, 0, 0) from rfl) (List.Mem.tail _ (List.Mem.tail _ (List.Mem.tail _ (List.Mem.tail _ (List.Mem.head _))))) ?_
  refine z_const X (show cdA 350 1311 = some (.iconst 1, 1, 0, 0, 0) from rfl) ?_
  refine z_add X (show cdA 350 1312 = some (.iadd, 1, 0, 0, 0) from rfl) ?_
  refine z_sld X S hL (show cdA 350 1313 = some (.iaload, 1, 0, 0, 0) from rfl) (show 0 ≤ (i + 1) ∧ (i + 1) < (L : Int) by omega) ?_
  have sr7 : rng (sc xs (i + 1)) := sc_rng
  refine z_aload_n X (x := q1) (show cdA 350 1314 = some (.aload_n 0, 1, 0, 0, 0) from rfl) (List.Mem.head _) ?_
  refine z_load X (x := i) (show cdA 350 1315 = some (.iload 4, 2, 0, 0, 0) from rfl) (List.Mem.tail _ (List.Mem.tail _ (List.Mem.tail _ (List.Mem.tail _ (List.Mem.head _))))) ?_
  refine z_const X (show cdA 350 1317 = some (.iconst 2, 1, 0, 0, 0) from rfl) ?_
  refine z_add X (show cdA 350 1318 = some (.iadd, 1, 0, 0, 0) from rfl) ?_
  refine z_sld X S hL (show cdA 350 1319 = some (.iaload, 1, 0, 0, 0) from rfl) (show 0 ≤ (i + 2) ∧ (i + 2) < (L : Int) by omega) ?_
  have sr8 : rng (sc xs (i + 2)) := sc_rng
  refine z_aload_n X (x := A 517) (show cdA 350 1320 = some (.aload_n 3, 1, 0, 0, 0) from rfl) (List.Mem.tail _ (List.Mem.tail _ (List.Mem.tail _ (List.Mem.head _)))) ?_
  refine z_callL X (rm := rmN 339) (As := [.ref (A 0), .int (Int32.ofInt (sc xs (i + 1))), .int (Int32.ofInt (sc xs (i + 2))), .ref (A 517)]) (st := []) (show cdA 350 1321 = some (.invokestatic 244, 3, 339, 6, 0) from rfl) (by decide) rfl (by rw [E.1, E.2.1, E.2.2.1]; exact lw_ill G I (by omega) (by omega)) ⟨by rw [E.2.2.2]; exact (show 8 + 1 ≤ 2048 by omega), by rw [E.2.2.2]; exact (show 8 + (5 + 11) + 146 ≤ 84000 by omega), by rw [E.2.2.2]; exact (show ce + 2 ≤ 601024 by omega), by rw [E.2.2.2]; exact (show sl + 12 ≤ 7293034 by omega)⟩ (Nat.le_of_ble_eq_true rfl) (fun vv A s9 hA2 hq => ?_) (fun ee A s9 hA2 hq => ?_)
  rotate_left
  · obtain ⟨Is9, Fs9, e10, hv, hrs9, hps9⟩ := hq; cases hv
  obtain ⟨Is9, Fs9, e10, hv, hrs9, hps9⟩ := hq
  cases hv
  rw [← hA2 0 (by decide)]
  rw [← hA2 179 (by decide)]
  rw [← hA2 517 (by decide)]
  have Gs9 := fm_ts F Fs9 (by decide) (by decide)
  have JRLx_s9 : RLx s9 := RLx_fm Fs9 (by decide) jR
  have JFEQ_s9 : FEQ s9 := FEQ_fm Fs9 (by decide) jFEQ
  have ws9_0 : iI s9 0 = iI s 0 := fm_i Fs9 (by decide)
  have ws9_74 : iI s9 74 = iI s 74 := fm_i Fs9 (by decide)
  have ws9_9 : iI s9 9 = iI s 9 := fm_i Fs9 (by decide)
  have ws9_90 : iI s9 90 = iI s 90 := fm_i Fs9 (by decide)
  have ws9_12 : iI s9 12 = iI s 12 := fm_i Fs9 (by decide)
  have ws9_89 : iI s9 89 = iI s 89 := fm_i Fs9 (by decide)
  show WS k 1324 [(0, .ref q1), (1, .ref (A 0)), (2, .ref (A 179)), (3, .ref (A 517)), (4, .int (Int32.ofInt i))] [.int (Int32.ofInt e10)] (Wd A dT s9) (ce + 2) (sl + 12)
  refine z_store X (lv' := [(5, .int (Int32.ofInt e10)), (0, .ref q1), (1, .ref (A 0)), (2, .ref (A 179)), (3, .ref (A 517)), (4, .int (Int32.ofInt i))]) (show cdA 350 1324 = some (.istore 5, 2, 0, 0, 0) from rfl) (by decide) (fun _ h => h) ?_
  refine z_aload_n X (x := A 179) (show cdA 350 1326 = some (.aload_n 2, 1, 0, 0, 0) from rfl) (List.Mem.tail _ (List.Mem.tail _ (List.Mem.tail _ (List.Mem.head _)))) ?_
  refine z_aload_n X (x := q1) (show cdA 350 1327 = some (.aload_n 0, 1, 0, 0, 0) from rfl) (List.Mem.tail _ (List.Mem.head _)) ?_
  refine z_load X (x := i) (show cdA 350 1328 = some (.iload 4, 2, 0, 0, 0) from rfl) (List.Mem.tail _ (List.Mem.tail _ (List.Mem.tail _ (List.Mem.tail _ (List.Mem.tail _ (List.Mem.head _)))))) ?_
  refine z_const X (show cdA 350 1330 = some (.iconst 1, 1, 0, 0, 0) from rfl) ?_
  refine z_add X (show cdA 350 1331 = some (.iadd, 1, 0, 0, 0) from rfl) ?_
  refine z_sld X S hL (show cdA 350 1332 = some (.iaload, 1, 0, 0, 0) from rfl) (show 0 ≤ (i + 1) ∧ (i + 1) < (L : Int) by omega) ?_
  have sr11 : rng (sc xs (i + 1)) := sc_rng
  refine z_aload_n X (x := q1) (show cdA 350 1333 = some (.aload_n 0, 1, 0, 0, 0) from rfl) (List.Mem.tail _ (List.Mem.head _)) ?_
  refine z_load X (x := i) (show cdA 350 1334 = some (.iload 4, 2, 0, 0, 0) from rfl) (List.Mem.tail _ (List.Mem.tail _ (List.Mem.tail _ (List.Mem.tail _ (List.Mem.tail _ (List.Mem.head _)))))) ?_
  refine z_const X (show cdA 350 1336 = some (.iconst 2, 1, 0, 0, 0) from rfl) ?_
  refine z_add X (show cdA 350 1337 = some (.iadd, 1, 0, 0, 0) from rfl) ?_
  refine z_sld X S hL (show cdA 350 1338 = some (.iaload, 1, 0, 0, 0) from rfl) (show 0 ≤ (i + 2) ∧ (i + 2) < (L : Int) by omega) ?_
  have sr12 : rng (sc xs (i + 2)) := sc_rng
  refine z_callV X 179 (rm := rmN 274) (As := [.int (Int32.ofInt (sc xs (i + 1))), .int (Int32.ofInt (sc xs (i + 2)))]) (st := []) (show cdA 350 1339 = some (.invokevirtual 246, 3, 274, 0, 0) from rfl) rfl (by decide) rfl (by rw [E.1, E.2.1, E.2.2.1]; exact k_ill G Is9 (by first | exact ⟨sr11.1, sr11.2⟩ | omega) (by first | exact ⟨sr12.1, sr12.2⟩ | omega)) ⟨by rw [E.2.2.2]; exact (show 7 + 1 ≤ 2048 by omega), by rw [E.2.2.2]; exact (show 8 + (4 + 11) + 122 ≤ 84000 by omega), by rw [E.2.2.2]; exact (show (ce + 2) + 0 ≤ 601024 by omega), by rw [E.2.2.2]; exact (show (sl + 12) + 0 ≤ 7293034 by omega)⟩ (Nat.le_of_ble_eq_true rfl) (fun vv s13 hq => ?_) (fun ee s13 hq => ?_)
  rotate_left
  · obtain ⟨Is13, Fs13, e14, hv, hrs13, hps13⟩ := hq; cases hv
  obtain ⟨Is13, Fs13, e14, hv, hrs13, hps13⟩ := hq
  cases hv
  have Gs13 := fm_ts Gs9 Fs13 (by decide) (by decide)
  have JRLx_s13 : RLx s13 := RLx_fm Fs13 (by decide) JRLx_s9
  have JFEQ_s13 : FEQ s13 := FEQ_fm Fs13 (by decide) JFEQ_s9
  have ws13_0 : iI s13 0 = iI s9 0 := fm_i Fs13 (by decide)
  have ws13_74 : iI s13 74 = iI s9 74 := fm_i Fs13 (by decide)
  have ws13_9 : iI s13 9 = iI s9 9 := fm_i Fs13 (by decide)
  have ws13_90 : iI s13 90 = iI s9 90 := fm_i Fs13 (by decide)
  have ws13_12 : iI s13 12 = iI s9 12 := fm_i Fs13 (by decide)
  have ws13_89 : iI s13 89 = iI s9 89 := fm_i Fs13 (by decide)
  have wos13 : iO s13 = iO s9 := fm_o Fs13 (by decide)
  show WS k 1342 [(5, .int (Int32.ofInt e10)), (0, .ref q1), (1, .ref (A 0)), (2, .ref (A 179)), (3, .ref (A 517)), (4, .int (Int32.ofInt i))] [.int (Int32.ofInt e14)] (Wd A dT s13) (ce + 2) (sl + 12)
  refine z_store X (lv' := [(6, .int (Int32.ofInt e14)), (5, .int (Int32.ofInt e10)), (0, .ref q1), (1, .ref (A 0)), (2, .ref (A 179)), (3, .ref (A 517)), (4, .int (Int32.ofInt i))]) (show cdA 350 1342 = some (.istore 6, 2, 0, 0, 0) from rfl) (by decide) (fun _ h => h) ?_
  refine z_goto X (t := 1894) (show cdA 350 1344 = some (.goto 550, 3, 0, 0, 0) from rfl) (by decide) ?_
  refine w_widen (ce' := ce + 29) (sl' := sl + 222) (by omega) (by omega) ?_
  exact WS_lv (lv := [(0, .ref q1), (1, .ref (A 0)), (2, .ref (A 179)), (3, .ref (A 517)), (4, .int (Int32.ofInt i))]) (List.forall_mem_cons.mpr ⟨(List.Mem.tail _ (List.Mem.tail _ (List.Mem.head _))), (List.forall_mem_cons.mpr ⟨(List.Mem.tail _ (List.Mem.tail _ (List.Mem.tail _ (List.Mem.head _)))), (List.forall_mem_cons.mpr ⟨(List.Mem.tail _ (List.Mem.tail _ (List.Mem.tail _ (List.Mem.tail _ (List.Mem.head _))))), (List.forall_mem_cons.mpr ⟨(List.Mem.tail _ (List.Mem.tail _ (List.Mem.tail _ (List.Mem.tail _ (List.Mem.tail _ (List.Mem.head _)))))), (List.forall_mem_cons.mpr ⟨(List.Mem.tail _ (List.Mem.tail _ (List.Mem.tail _ (List.Mem.tail _ (List.Mem.tail _ (List.Mem.tail _ (List.Mem.head _))))))), (fun q h => absurd h List.not_mem_nil)⟩)⟩)⟩)⟩)⟩) (hk A _ Is13 JRLx_s13 JFEQ_s13 (by omega) (by omega) (by omega) (by omega))
theorem lc_31 (G : GX l s0 D tys a0 dT) (GR : RS0 s0) (SF : SF0 s0) (GT : TXs0 s0) (GW : TXw0 s0) {k : kx_T} (X : AX k 350 dT) (E : kL k = l ∧ kS0 k = s0 ∧ kD k = D ∧ kR k = room_1) {q1 L : Nat} {xs : Nat → Int32} (S : SX k q1 L xs) (hL : L ≤ 3072) (I : Bd s) (jR : RLx s) (jFEQ : FEQ s) (p1 : iI s 89 = 1) (p2 : iI s 12 ≤ 8) (p3 : iI s 0 = iI s 74) (p4 : iI s 9 = iI s 90) {i : Int} (hi : 0 ≤ i ∧ i + 6 ≤ (L : Int)) {ce sl : Nat} (hce : ce + 29 ≤ 601024) (hsl : sl + 222 ≤ 7293034) (hk : ∀ (A : Nat → Nat) (t : PS), Bd t → RLx t → FEQ t → iI t 89 = 1 → iI t 12 ≤ 8 → iI t 0 = iI t 74 → iI t 9 = iI t 90 → WS k 1894 [(0, .ref q1), (1, .ref (A 0)), (2, .ref (A 179)), (3, .ref (A 517)), (4, .int (Int32.ofInt i))] [] (Wd A dT t) (ce + 29) (sl + 222)) : WS k 1347 [(0, .ref q1), (1, .ref (A 0)), (2, .ref (A 179)), (3, .ref (A 517)), (4, .int (Int32.ofInt i))] [] (Wd A dT s) ce sl := by
  have F : Fm [22, 23, 24, 34, 35, 38, 73, 104, 77, 75, 78, 79, 80, 81, 89] [33, 26, 27, 28, 29, 30, 31, 32, 20, 48, 47, 49, 50, 51, 53, 54, 55, 56, 1460, 161, 230, 202, 204, 205, 206, 207, 208, 209, 210, 211, 212, 213, 214, 215, 216, 217, 218, 219, 220, 221, 222, 223, 224, 225, 226, 227, 203, 395, 396, 397, 245, 246, 247, 248, 249, 250, 251, 252, 253, 254, 255, 256, 257, 258, 259, 260, 261, 262, 263, 264, 265, 266, 267, 268, 269, 270, 271, 272, 273, 274, 275, 276, 277, 278, 279, 280, 281, 282, 283, 284, 285, 286, 287, 288, 289, 290, 291, 292, 293, 294, 295, 296, 297, 298, 299, 300, 301, 302, 303, 304, 305, 306, 307, 308, 309, 310, 311, 312, 313, 314, 315, 316, 317, 318, 319, 320, 321, 322, 323, 324, 325, 326, 327, 328, 329, 330, 331, 332, 333, 334, 335, 336, 337, 338, 339, 340, 341, 342, 343, 344, 345, 346, 347, 348, 349, 350, 351, 352, 353, 354, 355, 356, 357, 358, 359, 360, 361, 362, 363, 364, 365, 366, 367, 368, 369, 370, 371, 372, 373, 374, 375, 376, 377, 378, 379, 380, 381, 382, 383, 384, 385, 386, 387, 388, 389, 390, 391, 392, 393, 394] s s := fm_rf _ _ s
  have b1 : (0 : Int) ≤ iI s 0 ∧ iI s 0 ≤ 200 := I.1 0
  have b2 : (0 : Int) ≤ iI s 74 ∧ iI s 74 ≤ 200 := I.1 74
  have b3 : (0 : Int) ≤ iI s 9 ∧ iI s 9 ≤ 12 := I.1 9
  have b4 : (0 : Int) ≤ iI s 90 ∧ iI s 90 ≤ 12 := I.1 90
  have b5 : (0 : Int) ≤ iI s 12 ∧ iI s 12 ≤ 9 := I.1 12
  have b6 : (1 : Int) ≤ iI s 89 ∧ iI s 89 ≤ 8 := I.1 89
  refine z_aload_n X (x := A 0) (show cdA 350 1347 = some (.aload_n 1, 1, 0, 0, 0) from rfl) (List.Mem.tail _ (List.Mem.head _)) ?_
  refine z_aload_n X (x := q1) (show cdA 350 1348 = some (.aload_n 0, 1, 0, 0, 0) from rfl) (List.Mem.head _) ?_
  refine z_load X (x := i) (show cdA 350 1349 = some (.iload 4, 2, 0, 0, 0) from rfl) (List.Mem.tail _ (List.Mem.tail _ (List.Mem.tail _ (List.Mem.tail _ (List.Mem.head _))))) ?_
  refine z_const X (show cdA 350 1351 = some (.iconst 1, 1, 0, 0, 0) from rfl) ?_
  refine z_add X (show cdA 350 1352 = some (.iadd, 1, 0, 0, 0) from rfl) ?_
  refine z_sld X S hL (show cdA 350 1353 = some (.iaload, 1, 0, 0, 0) from rfl) (show 0 ≤ (i + 1) ∧ (i + 1) < (L : Int) by omega) ?_
  have sr7 : rng (sc xs (i + 1)) := sc_rng
  refine z_aload_n X (x := q1) (show cdA 350 1354 = some (.aload_n 0, 1, 0, 0, 0) from rfl) (List.Mem.head _) ?_
  refine z_load X (x := i) (show cdA 350 1355 = some (.iload 4, 2, 0, 0, 0) from rfl) (List.Mem.tail _ (List.Mem.tail _ (List.Mem.tail _ (List.Mem.tail _ (List.Mem.head _))))) ?_
  refine z_const X (show cdA 350 1357 = some (.iconst 2, 1, 0, 0, 0) from rfl) ?_
  refine z_add X (show cdA 350 1358 = some (.iadd, 1, 0, 0, 0) from rfl) ?_
  refine z_sld X S hL (show cdA 350 1359 = some (.iaload, 1, 0, 0, 0) from rfl) (show 0 ≤ (i + 2) ∧ (i + 2) < (L : Int) by omega) ?_
  have sr8 : rng (sc xs (i + 2)) := sc_rng
  refine z_aload_n X (x := q1) (show cdA 350 1360 = some (.aload_n 0, 1, 0, 0, 0) from rfl) (List.Mem.head _) ?_
  refine z_load X (x := i) (show cdA 350 1361 = some (.iload 4, 2, 0, 0, 0) from rfl) (List.Mem.tail _ (List.Mem.tail _ (List.Mem.tail _ (List.Mem.tail _ (List.Mem.head _))))) ?_
  refine z_const X (show cdA 350 1363 = some (.iconst 3, 1, 0, 0, 0) from rfl) ?_
  refine z_add X (show cdA 350 1364 = some (.iadd, 1, 0, 0, 0) from rfl) ?_
  refine z_sld X S hL (show cdA 350 1365 = some (.iaload, 1, 0, 0, 0) from rfl) (show 0 ≤ (i + 3) ∧ (i + 3) < (L : Int) by omega) ?_
  have sr9 : rng (sc xs (i + 3)) := sc_rng
  refine z_aload_n X (x := A 517) (show cdA 350 1366 = some (.aload_n 3, 1, 0, 0, 0) from rfl) (List.Mem.tail _ (List.Mem.tail _ (List.Mem.tail _ (List.Mem.head _)))) ?_
  refine z_callL X (rm := rmN 340) (As := [.ref (A 0), .int (Int32.ofInt (sc xs (i + 1))), .int (Int32.ofInt (sc xs (i + 2))), .int (Int32.ofInt (sc xs (i + 3))), .ref (A 517)]) (st := []) (show cdA 350 1367 = some (.invokestatic 247, 3, 340, 6, 0) from rfl) (by decide) rfl (by rw [E.1, E.2.1, E.2.2.1]; exact lw_rota G I (by omega) (by omega) (by omega) (by omega)) ⟨by rw [E.2.2.2]; exact (show 13 + 1 ≤ 2048 by omega), by rw [E.2.2.2]; exact (show 8 + (6 + 11) + 274 ≤ 84000 by omega), by rw [E.2.2.2]; exact (show ce + 3 ≤ 601024 by omega), by rw [E.2.2.2]; exact (show sl + 18 ≤ 7293034 by omega)⟩ (Nat.le_of_ble_eq_true rfl) (fun vv A s10 hA2 hq => ?_) (fun ee A s10 hA2 hq => ?_)
  rotate_left
  · obtain ⟨Is10, Fs10, e11, hv, hrs10, hps10⟩ := hq; cases hv
  obtain ⟨Is10, Fs10, e11, hv, hrs10, hps10⟩ := hq
  cases hv
  rw [← hA2 0 (by decide)]
  rw [← hA2 179 (by decide)]
  rw [← hA2 517 (by decide)]
  have Gs10 := fm_ts F Fs10 (by decide) (by decide)
  have JRLx_s10 : RLx s10 := RLx_fm Fs10 (by decide) jR
  have JFEQ_s10 : FEQ s10 := FEQ_fm Fs10 (by decide) jFEQ
  have ws10_0 : iI s10 0 = iI s 0 := fm_i Fs10 (by decide)
  have ws10_74 : iI s10 74 = iI s 74 := fm_i Fs10 (by decide)
  have ws10_9 : iI s10 9 = iI s 9 := fm_i Fs10 (by decide)
  have ws10_90 : iI s10 90 = iI s 90 := fm_i Fs10 (by decide)
  have ws10_12 : iI s10 12 = iI s 12 := fm_i Fs10 (by decide)
  have ws10_89 : iI s10 89 = iI s 89 := fm_i Fs10 (by decide)
  show WS k 1370 [(0, .ref q1), (1, .ref (A 0)), (2, .ref (A 179)), (3, .ref (A 517)), (4, .int (Int32.ofInt i))] [.int (Int32.ofInt e11)] (Wd A dT s10) (ce + 3) (sl + 18)
  refine z_store X (lv' := [(5, .int (Int32.ofInt e11)), (0, .ref q1), (1, .ref (A 0)), (2, .ref (A 179)), (3, .ref (A 517)), (4, .int (Int32.ofInt i))]) (show cdA 350 1370 = some (.istore 5, 2, 0, 0, 0) from rfl) (by decide) (fun _ h => h) ?_
  refine z_aload_n X (x := A 179) (show cdA 350 1372 = some (.aload_n 2, 1, 0, 0, 0) from rfl) (List.Mem.tail _ (List.Mem.tail _ (List.Mem.tail _ (List.Mem.head _)))) ?_
  refine z_aload_n X (x := q1) (show cdA 350 1373 = some (.aload_n 0, 1, 0, 0, 0) from rfl) (List.Mem.tail _ (List.Mem.head _)) ?_
  refine z_load X (x := i) (show cdA 350 1374 = some (.iload 4, 2, 0, 0, 0) from rfl) (List.Mem.tail _ (List.Mem.tail _ (List.Mem.tail _ (List.Mem.tail _ (List.Mem.tail _ (List.Mem.head _)))))) ?_
  refine z_const X (show cdA 350 1376 = some (.iconst 1, 1, 0, 0, 0) from rfl) ?_
  refine z_add X (show cdA 350 1377 = some (.iadd, 1, 0, 0, 0) from rfl) ?_
  refine z_sld X S hL (show cdA 350 1378 = some (.iaload, 1, 0, 0, 0) from rfl) (show 0 ≤ (i + 1) ∧ (i + 1) < (L : Int) by omega) ?_
  have sr12 : rng (sc xs (i + 1)) := sc_rng
  refine z_aload_n X (x := q1) (show cdA 350 1379 = some (.aload_n 0, 1, 0, 0, 0) from rfl) (List.Mem.tail _ (List.Mem.head _)) ?_
  refine z_load X (x := i) (show cdA 350 1380 = some (.iload 4, 2, 0, 0, 0) from rfl) (List.Mem.tail _ (List.Mem.tail _ (List.Mem.tail _ (List.Mem.tail _ (List.Mem.tail _ (List.Mem.head _)))))) ?_
  refine z_const X (show cdA 350 1382 = some (.iconst 2, 1, 0, 0, 0) from rfl) ?_
  refine z_add X (show cdA 350 1383 = some (.iadd, 1, 0, 0, 0) from rfl) ?_
  refine z_sld X S hL (show cdA 350 1384 = some (.iaload, 1, 0, 0, 0) from rfl) (show 0 ≤ (i + 2) ∧ (i + 2) < (L : Int) by omega) ?_
  have sr13 : rng (sc xs (i + 2)) := sc_rng
  refine z_aload_n X (x := q1) (show cdA 350 1385 = some (.aload_n 0, 1, 0, 0, 0) from rfl) (List.Mem.tail _ (List.Mem.head _)) ?_
  refine z_load X (x := i) (show cdA 350 1386 = some (.iload 4, 2, 0, 0, 0) from rfl) (List.Mem.tail _ (List.Mem.tail _ (List.Mem.tail _ (List.Mem.tail _ (List.Mem.tail _ (List.Mem.head _)))))) ?_
  refine z_const X (show cdA 350 1388 = some (.iconst 3, 1, 0, 0, 0) from rfl) ?_
  refine z_add X (show cdA 350 1389 = some (.iadd, 1, 0, 0, 0) from rfl) ?_
  refine z_sld X S hL (show cdA 350 1390 = some (.iaload, 1, 0, 0, 0) from rfl) (show 0 ≤ (i + 3) ∧ (i + 3) < (L : Int) by omega) ?_
  have sr14 : rng (sc xs (i + 3)) := sc_rng
  refine z_callV X 179 (rm := rmN 276) (As := [.int (Int32.ofInt (sc xs (i + 1))), .int (Int32.ofInt (sc xs (i + 2))), .int (Int32.ofInt (sc xs (i + 3)))]) (st := []) (show cdA 350 1391 = some (.invokevirtual 249, 3, 276, 0, 0) from rfl) rfl (by decide) rfl (by rw [E.1, E.2.1, E.2.2.1]; exact k_rota G Is10 JRLx_s10 (by first | exact ⟨sr12.1, sr12.2⟩ | omega) (by first | exact ⟨sr13.1, sr13.2⟩ | omega) (by first | exact ⟨sr14.1, sr14.2⟩ | omega) (by omega)) ⟨by rw [E.2.2.2]; exact (show 64 + 1 ≤ 2048 by omega), by rw [E.2.2.2]; exact (show 8 + (4 + 11) + 2742 ≤ 84000 by omega), by rw [E.2.2.2]; exact (show (ce + 3) + 3 ≤ 601024 by omega), by rw [E.2.2.2]; exact (show (sl + 18) + 24 ≤ 7293034 by omega)⟩ (Nat.le_of_ble_eq_true rfl) (fun vv s15 hq => ?_) (fun ee s15 hq => ?_)
  rotate_left
  · obtain ⟨Is15, Fs15, JRLx_s15, e16, hv, hrs15, hps15⟩ := hq; cases hv
  obtain ⟨Is15, Fs15, JRLx_s15, e16, hv, hrs15, hps15⟩ := hq
  cases hv
  have Gs15 := fm_ts Gs10 Fs15 (by decide) (by decide +kernel)
  have JRLx_s15 : RLx s15 := RLx_fm Fs15 (by decide) JRLx_s10
  have JFEQ_s15 : FEQ s15 := FEQ_fm Fs15 (by decide) JFEQ_s10
  have ws15_0 : iI s15 0 = iI s10 0 := fm_i Fs15 (by decide)
  have ws15_74 : iI s15 74 = iI s10 74 := fm_i Fs15 (by decide)
  have ws15_9 : iI s15 9 = iI s10 9 := fm_i Fs15 (by decide)
  have ws15_90 : iI s15 90 = iI s10 90 := fm_i Fs15 (by decide)
  have ws15_12 : iI s15 12 = iI s10 12 := fm_i Fs15 (by decide)
  have b17 : (1 : Int) ≤ iI s15 89 ∧ iI s15 89 ≤ 8 := Is15.1 89
  have wos15 : iO s15 = iO s10 := fm_o Fs15 (by decide)
  show WS k 1394 [(5, .int (Int32.ofInt e11)), (0, .ref q1), (1, .ref (A 0)), (2, .ref (A 179)), (3, .ref (A 517)), (4, .int (Int32.ofInt i))] [.int (Int32.ofInt e16)] (Wd A dT s15) ((ce + 3) + 3) ((sl + 18) + 24)
  refine z_store X (lv' := [(6, .int (Int32.ofInt e16)), (5, .int (Int32.ofInt e11)), (0, .ref q1), (1, .ref (A 0)), (2, .ref (A 179)), (3, .ref (A 517)), (4, .int (Int32.ofInt i))]) (show cdA 350 1394 = some (.istore 6, 2, 0, 0, 0) from rfl) (by decide) (fun _ h => h) ?_
  refine z_goto X (t := 1894) (show cdA 350 1396 = some (.goto 498, 3, 0, 0, 0) from rfl) (by decide) ?_
  refine w_widen (ce' := ce + 29) (sl' := sl + 222) (by omega) (by omega) ?_
  exact WS_lv (lv := [(0, .ref q1), (1, .ref (A 0)), (2, .ref (A 179)), (3, .ref (A 517)), (4, .int (Int32.ofInt i))]) (List.forall_mem_cons.mpr ⟨(List.Mem.tail _ (List.Mem.tail _ (List.Mem.head _))), (List.forall_mem_cons.mpr ⟨(List.Mem.tail _ (List.Mem.tail _ (List.Mem.tail _ (List.Mem.head _)))), (List.forall_mem_cons.mpr ⟨(List.Mem.tail _ (List.Mem.tail _ (List.Mem.tail _ (List.Mem.tail _ (List.Mem.head _))))), (List.forall_mem_cons.mpr ⟨(List.Mem.tail _ (List.Mem.tail _ (List.Mem.tail _ (List.Mem.tail _ (List.Mem.tail _ (List.Mem.head _)))))), (List.forall_mem_cons.mpr ⟨(List.Mem.tail _ (List.Mem.tail _ (List.Mem.tail _ (List.Mem.tail _ (List.Mem.tail _ (List.Mem.tail _ (List.Mem.head _))))))), (fun q h => absurd h List.not_mem_nil)⟩)⟩)⟩)⟩)⟩) (hk A _ Is15 JRLx_s15 JFEQ_s15 (by omega) (by omega) (by omega) (by omega))
theorem lc_32 (G : GX l s0 D tys a0 dT) (GR : RS0 s0) (SF : SF0 s0) (GT : TXs0 s0) (GW : TXw0 s0) {k : kx_T} (X : AX k 350 dT) (E : kL k = l ∧ kS0 k = s0 ∧ kD k = D ∧ kR k = room_1) {q1 L : Nat} {xs : Nat → Int32} (S : SX k q1 L xs) (hL : L ≤ 3072) (I : Bd s) (jR : RLx s) (jFEQ : FEQ s) (p1 : iI s 89 = 1) (p2 : iI s 12 ≤ 8) (p3 : iI s 0 = iI s 74) (p4 : iI s 9 = iI s 90) {i : Int} (hi : 0 ≤ i ∧ i + 6 ≤ (L : Int)) {ce sl : Nat} (hce : ce + 29 ≤ 601024) (hsl : sl + 222 ≤ 7293034) (hk : ∀ (A : Nat → Nat) (t : PS), Bd t → RLx t → FEQ t → iI t 89 = 1 → iI t 12 ≤ 8 → iI t 0 = iI t 74 → iI t 9 = iI t 90 → WS k 1894 [(0, .ref q1), (1, .ref (A 0)), (2, .ref (A 179)), (3, .ref (A 517)), (4, .int (Int32.ofInt i))] [] (Wd A dT t) (ce + 29) (sl + 222)) : WS k 1399 [(0, .ref q1), (1, .ref (A 0)), (2, .ref (A 179)), (3, .ref (A 517)), (4, .int (Int32.ofInt i))] [] (Wd A dT s) ce sl := by
  have F : Fm [22, 23, 24, 34, 35, 38, 73, 104, 77, 75, 78, 79, 80, 81, 89] [33, 26, 27, 28, 29, 30, 31, 32, 20, 48, 47, 49, 50, 51, 53, 54, 55, 56, 1460, 161, 230, 202, 204, 205, 206, 207, 208, 209, 210, 211, 212, 213, 214, 215, 216, 217, 218, 219, 220, 221, 222, 223, 224, 225, 226, 227, 203, 395, 396, 397, 245, 246, 247, 248, 249, 250, 251, 252, 253, 254, 255, 256, 257, 258, 259, 260, 261, 262, 263, 264, 265, 266, 267, 268, 269, 270, 271, 272, 273, 274, 275, 276, 277, 278, 279, 280, 281, 282, 283, 284, 285, 286, 287, 288, 289, 290, 291, 292, 293, 294, 295, 296, 297, 298, 299, 300, 301, 302, 303, 304, 305, 306, 307, 308, 309, 310, 311, 312, 313, 314, 315, 316, 317, 318, 319, 320, 321, 322, 323, 324, 325, 326, 327, 328, 329, 330, 331, 332, 333, 334, 335, 336, 337, 338, 339, 340, 341, 342, 343, 344, 345, 346, 347, 348, 349, 350, 351, 352, 353, 354, 355, 356, 357, 358, 359, 360, 361, 362, 363, 364, 365, 366, 367, 368, 369, 370, 371, 372, 373, 374, 375, 376, 377, 378, 379, 380, 381, 382, 383, 384, 385, 386, 387, 388, 389, 390, 391, 392, 393, 394] s s := fm_rf _ _ s
  have b1 : (0 : Int) ≤ iI s 0 ∧ iI s 0 ≤ 200 := I.1 0
  have b2 : (0 : Int) ≤ iI s 74 ∧ iI s 74 ≤ 200 := I.1 74
  have b3 : (0 : Int) ≤ iI s 9 ∧ iI s 9 ≤ 12 := I.1 9
  have b4 : (0 : Int) ≤ iI s 90 ∧ iI s 90 ≤ 12 := I.1 90
  have b5 : (0 : Int) ≤ iI s 12 ∧ iI s 12 ≤ 9 := I.1 12
  have b6 : (1 : Int) ≤ iI s 89 ∧ iI s 89 ≤ 8 := I.1 89
  refine z_aload_n X (x := A 0) (show cdA 350 1399 = some (.aload_n 1, 1, 0, 0, 0) from rfl) (List.Mem.tail _ (List.Mem.head _)) ?_
  refine z_aload_n X (x := q1) (show cdA 350 1400 = some (.aload_n 0, 1, 0, 0, 0) from rfl) (List.Mem.head _) ?_
  refine z_load X (x := i) (show cdA 350 1401 = some (.iload 4, 2, 0, 0, 0) from rfl) (List.Mem.tail _ (List.Mem.tail _ (List.Mem.tail _ (List.Mem.tail _ (List.Mem.head _))))) ?_
  refine z_const X (show cdA 350 1403 = some (.iconst 1, 1, 0, 0, 0) from rfl) ?_
  refine z_add X (show cdA 350 1404 = some (.iadd, 1, 0, 0, 0) from rfl) ?_
  refine z_sld X S hL (show cdA 350 1405 = some (.iaload, 1, 0, 0, 0) from rfl) (show 0 ≤ (i + 1) ∧ (i + 1) < (L : Int) by omega) ?_
  have sr7 : rng (sc xs (i + 1)) := sc_rng
  refine z_aload_n X (x := q1) (show cdA 350 1406 = some (.aload_n 0, 1, 0, 0, 0) from rfl) (List.Mem.head _) ?_
  refine z_load X (x := i) (show cdA 350 1407 = some (.iload 4, 2, 0, 0, 0) from rfl) (List.Mem.tail _ (List.Mem.tail _ (List.Mem.tail _ (List.Mem.tail _ (List.Mem.head _))))) ?_
  refine z_const X (show cdA 350 1409 = some (.iconst 2, 1, 0, 0, 0) from rfl) ?_
  refine z_add X (show cdA 350 1410 = some (.iadd, 1, 0, 0, 0) from rfl) ?_
  refine z_sld X S hL (show cdA 350 1411 = some (.iaload, 1, 0, 0, 0) from rfl) (show 0 ≤ (i + 2) ∧ (i + 2) < (L : Int) by omega) ?_
  have sr8 : rng (sc xs (i + 2)) := sc_rng
  refine z_aload_n X (x := A 517) (show cdA 350 1412 = some (.aload_n 3, 1, 0, 0, 0) from rfl) (List.Mem.tail _ (List.Mem.tail _ (List.Mem.tail _ (List.Mem.head _)))) ?_
  refine z_callL X (rm := rmN 341) (As := [.ref (A 0), .int (Int32.ofInt (sc xs (i + 1))), .int (Int32.ofInt (sc xs (i + 2))), .ref (A 517)]) (st := []) (show cdA 350 1413 = some (.invokestatic 250, 3, 341, 6, 0) from rfl) (by decide) rfl (by rw [E.1, E.2.1, E.2.2.1]; exact lw_lacks G I (by omega) (by omega) (by omega)) ⟨by rw [E.2.2.2]; exact (show 13 + 1 ≤ 2048 by omega), by rw [E.2.2.2]; exact (show 8 + (5 + 11) + 273 ≤ 84000 by omega), by rw [E.2.2.2]; exact (show ce + 2 ≤ 601024 by omega), by rw [E.2.2.2]; exact (show sl + 12 ≤ 7293034 by omega)⟩ (Nat.le_of_ble_eq_true rfl) (fun vv A s9 hA2 hq => ?_) (fun ee A s9 hA2 hq => ?_)
  rotate_left
  · obtain ⟨Is9, Fs9, e10, hv, hrs9, hps9⟩ := hq; cases hv
  obtain ⟨Is9, Fs9, e10, hv, hrs9, hps9⟩ := hq
  cases hv
  rw [← hA2 0 (by decide)]
  rw [← hA2 179 (by decide)]
  rw [← hA2 517 (by decide)]
  have Gs9 := fm_ts F Fs9 (by decide) (by decide)
  have JRLx_s9 : RLx s9 := RLx_fm Fs9 (by decide) jR
  have JFEQ_s9 : FEQ s9 := FEQ_fm Fs9 (by decide) jFEQ
  have ws9_0 : iI s9 0 = iI s 0 := fm_i Fs9 (by decide)
  have ws9_74 : iI s9 74 = iI s 74 := fm_i Fs9 (by decide)
  have ws9_9 : iI s9 9 = iI s 9 := fm_i Fs9 (by decide)
  have ws9_90 : iI s9 90 = iI s 90 := fm_i Fs9 (by decide)
  have ws9_12 : iI s9 12 = iI s 12 := fm_i Fs9 (by decide)
  have ws9_89 : iI s9 89 = iI s 89 := fm_i Fs9 (by decide)
  show WS k 1416 [(0, .ref q1), (1, .ref (A 0)), (2, .ref (A 179)), (3, .ref (A 517)), (4, .int (Int32.ofInt i))] [.int (Int32.ofInt e10)] (Wd A dT s9) (ce + 2) (sl + 12)
  refine z_store X (lv' := [(5, .int (Int32.ofInt e10)), (0, .ref q1), (1, .ref (A 0)), (2, .ref (A 179)), (3, .ref (A 517)), (4, .int (Int32.ofInt i))]) (show cdA 350 1416 = some (.istore 5, 2, 0, 0, 0) from rfl) (by decide) (fun _ h => h) ?_
  refine z_aload_n X (x := A 179) (show cdA 350 1418 = some (.aload_n 2, 1, 0, 0, 0) from rfl) (List.Mem.tail _ (List.Mem.tail _ (List.Mem.tail _ (List.Mem.head _)))) ?_
  refine z_aload_n X (x := q1) (show cdA 350 1419 = some (.aload_n 0, 1, 0, 0, 0) from rfl) (List.Mem.tail _ (List.Mem.head _)) ?_
  refine z_load X (x := i) (show cdA 350 1420 = some (.iload 4, 2, 0, 0, 0) from rfl) (List.Mem.tail _ (List.Mem.tail _ (List.Mem.tail _ (List.Mem.tail _ (List.Mem.tail _ (List.Mem.head _)))))) ?_
  refine z_const X (show cdA 350 1422 = some (.iconst 1, 1, 0, 0, 0) from rfl) ?_
  refine z_add X (show cdA 350 1423 = some (.iadd, 1, 0, 0, 0) from rfl) ?_
  refine z_sld X S hL (show cdA 350 1424 = some (.iaload, 1, 0, 0, 0) from rfl) (show 0 ≤ (i + 1) ∧ (i + 1) < (L : Int) by omega) ?_
  have sr11 : rng (sc xs (i + 1)) := sc_rng
  refine z_aload_n X (x := q1) (show cdA 350 1425 = some (.aload_n 0, 1, 0, 0, 0) from rfl) (List.Mem.tail _ (List.Mem.head _)) ?_
  refine z_load X (x := i) (show cdA 350 1426 = some (.iload 4, 2, 0, 0, 0) from rfl) (List.Mem.tail _ (List.Mem.tail _ (List.Mem.tail _ (List.Mem.tail _ (List.Mem.tail _ (List.Mem.head _)))))) ?_
  refine z_const X (show cdA 350 1428 = some (.iconst 2, 1, 0, 0, 0) from rfl) ?_
  refine z_add X (show cdA 350 1429 = some (.iadd, 1, 0, 0, 0) from rfl) ?_
  refine z_sld X S hL (show cdA 350 1430 = some (.iaload, 1, 0, 0, 0) from rfl) (show 0 ≤ (i + 2) ∧ (i + 2) < (L : Int) by omega) ?_
  have sr12 : rng (sc xs (i + 2)) := sc_rng
  refine z_callV X 179 (rm := rmN 277) (As := [.int (Int32.ofInt (sc xs (i + 1))), .int (Int32.ofInt (sc xs (i + 2)))]) (st := []) (show cdA 350 1431 = some (.invokevirtual 252, 3, 277, 0, 0) from rfl) rfl (by decide) rfl (by rw [E.1, E.2.1, E.2.2.1]; exact k_lacks G Is9 JRLx_s9 (by first | exact ⟨sr11.1, sr11.2⟩ | omega) (by first | exact ⟨sr12.1, sr12.2⟩ | omega) (by omega)) ⟨by rw [E.2.2.2]; exact (show 64 + 1 ≤ 2048 by omega), by rw [E.2.2.2]; exact (show 8 + (3 + 11) + 2742 ≤ 84000 by omega), by rw [E.2.2.2]; exact (show (ce + 2) + 3 ≤ 601024 by omega), by rw [E.2.2.2]; exact (show (sl + 12) + 24 ≤ 7293034 by omega)⟩ (Nat.le_of_ble_eq_true rfl) (fun vv s13 hq => ?_) (fun ee s13 hq => ?_)
  rotate_left
  · obtain ⟨Is13, Fs13, JRLx_s13, e14, hv, hrs13, hps13⟩ := hq; cases hv
  obtain ⟨Is13, Fs13, JRLx_s13, e14, hv, hrs13, hps13⟩ := hq
  cases hv
  have Gs13 := fm_ts Gs9 Fs13 (by decide) (by decide +kernel)
  have JRLx_s13 : RLx s13 := RLx_fm Fs13 (by decide) JRLx_s9
  have JFEQ_s13 : FEQ s13 := FEQ_fm Fs13 (by decide) JFEQ_s9
  have ws13_0 : iI s13 0 = iI s9 0 := fm_i Fs13 (by decide)
  have ws13_74 : iI s13 74 = iI s9 74 := fm_i Fs13 (by decide)
  have ws13_9 : iI s13 9 = iI s9 9 := fm_i Fs13 (by decide)
  have ws13_90 : iI s13 90 = iI s9 90 := fm_i Fs13 (by decide)
  have ws13_12 : iI s13 12 = iI s9 12 := fm_i Fs13 (by decide)
  have b15 : (1 : Int) ≤ iI s13 89 ∧ iI s13 89 ≤ 8 := Is13.1 89
  have wos13 : iO s13 = iO s9 := fm_o Fs13 (by decide)
  show WS k 1434 [(5, .int (Int32.ofInt e10)), (0, .ref q1), (1, .ref (A 0)), (2, .ref (A 179)), (3, .ref (A 517)), (4, .int (Int32.ofInt i))] [.int (Int32.ofInt e14)] (Wd A dT s13) ((ce + 2) + 3) ((sl + 12) + 24)
  refine z_store X (lv' := [(6, .int (Int32.ofInt e14)), (5, .int (Int32.ofInt e10)), (0, .ref q1), (1, .ref (A 0)), (2, .ref (A 179)), (3, .ref (A 517)), (4, .int (Int32.ofInt i))]) (show cdA 350 1434 = some (.istore 6, 2, 0, 0, 0) from rfl) (by decide) (fun _ h => h) ?_
  refine z_goto X (t := 1894) (show cdA 350 1436 = some (.goto 458, 3, 0, 0, 0) from rfl) (by decide) ?_
  refine w_widen (ce' := ce + 29) (sl' := sl + 222) (by omega) (by omega) ?_
  exact WS_lv (lv := [(0, .ref q1), (1, .ref (A 0)), (2, .ref (A 179)), (3, .ref (A 517)), (4, .int (Int32.ofInt i))]) (List.forall_mem_cons.mpr ⟨(List.Mem.tail _ (List.Mem.tail _ (List.Mem.head _))), (List.forall_mem_cons.mpr ⟨(List.Mem.tail _ (List.Mem.tail _ (List.Mem.tail _ (List.Mem.head _)))), (List.forall_mem_cons.mpr ⟨(List.Mem.tail _ (List.Mem.tail _ (List.Mem.tail _ (List.Mem.tail _ (List.Mem.head _))))), (List.forall_mem_cons.mpr ⟨(List.Mem.tail _ (List.Mem.tail _ (List.Mem.tail _ (List.Mem.tail _ (List.Mem.tail _ (List.Mem.head _)))))), (List.forall_mem_cons.mpr ⟨(List.Mem.tail _ (List.Mem.tail _ (List.Mem.tail _ (List.Mem.tail _ (List.Mem.tail _ (List.Mem.tail _ (List.Mem.head _))))))), (fun q h => absurd h List.not_mem_nil)⟩)⟩)⟩)⟩)⟩) (hk A _ Is13 JRLx_s13 JFEQ_s13 (by omega) (by omega) (by omega) (by omega))
theorem lc_33 (G : GX l s0 D tys a0 dT) (GR : RS0 s0) (SF : SF0 s0) (GT : TXs0 s0) (GW : TXw0 s0) {k : kx_T} (X : AX k 350 dT) (E : kL k = l ∧ kS0 k = s0 ∧ kD k = D ∧ kR k = room_1) {q1 L : Nat} {xs : Nat → Int32} (S : SX k q1 L xs) (hL : L ≤ 3072) (I : Bd s) (jR : RLx s) (jFEQ : FEQ s) (p1 : iI s 89 = 1) (p2 : iI s 12 ≤ 8) (p3 : iI s 0 = iI s 74) (p4 : iI s 9 = iI s 90) {i : Int} (hi : 0 ≤ i ∧ i + 6 ≤ (L : Int)) {ce sl : Nat} (hce : ce + 29 ≤ 601024) (hsl : sl + 222 ≤ 7293034) (hk : ∀ (A : Nat → Nat) (t : PS), Bd t → RLx t → FEQ t → iI t 89 = 1 → iI t 12 ≤ 8 → iI t 0 = iI t 74 → iI t 9 = iI t 90 → WS k 1894 [(0, .ref q1), (1, .ref (A 0)), (2, .ref (A 179)), (3, .ref (A 517)), (4, .int (Int32.ofInt i))] [] (Wd A dT t) (ce + 29) (sl + 222)) : WS k 1439 [(0, .ref q1), (1, .ref (A 0)), (2, .ref (A 179)), (3, .ref (A 517)), (4, .int (Int32.ofInt i))] [] (Wd A dT s) ce sl := by
  have F : Fm [22, 23, 24, 34, 35, 38, 73, 104, 77, 75, 78, 79, 80, 81, 89] [33, 26, 27, 28, 29, 30, 31, 32, 20, 48, 47, 49, 50, 51, 53, 54, 55, 56, 1460, 161, 230, 202, 204, 205, 206, 207, 208, 209, 210, 211, 212, 213, 214, 215, 216, 217, 218, 219, 220, 221, 222, 223, 224, 225, 226, 227, 203, 395, 396, 397, 245, 246, 247, 248, 249, 250, 251, 252, 253, 254, 255, 256, 257, 258, 259, 260, 261, 262, 263, 264, 265, 266, 267, 268, 269, 270, 271, 272, 273, 274, 275, 276, 277, 278, 279, 280, 281, 282, 283, 284, 285, 286, 287, 288, 289, 290, 291, 292, 293, 294, 295, 296, 297, 298, 299, 300, 301, 302, 303, 304, 305, 306, 307, 308, 309, 310, 311, 312, 313, 314, 315, 316, 317, 318, 319, 320, 321, 322, 323, 324, 325, 326, 327, 328, 329, 330, 331, 332, 333, 334, 335, 336, 337, 338, 339, 340, 341, 342, 343, 344, 345, 346, 347, 348, 349, 350, 351, 352, 353, 354, 355, 356, 357, 358, 359, 360, 361, 362, 363, 364, 365, 366, 367, 368, 369, 370, 371, 372, 373, 374, 375, 376, 377, 378, 379, 380, 381, 382, 383, 384, 385, 386, 387, 388, 389, 390, 391, 392, 393, 394] s s := fm_rf _ _ s
  have b1 : (0 : Int) ≤ iI s 0 ∧ iI s 0 ≤ 200 := I.1 0
  have b2 : (0 : Int) ≤ iI s 74 ∧ iI s 74 ≤ 200 := I.1 74
  have b3 : (0 : Int) ≤ iI s 9 ∧ iI s 9 ≤ 12 := I.1 9
  have b4 : (0 : Int) ≤ iI s 90 ∧ iI s 90 ≤ 12 := I.1 90
  have b5 : (0 : Int) ≤ iI s 12 ∧ iI s 12 ≤ 9 := I.1 12
  have b6 : (1 : Int) ≤ iI s 89 ∧ iI s 89 ≤ 8 := I.1 89
  refine z_aload_n X (x := A 0) (show cdA 350 1439 = some (.aload_n 1, 1, 0, 0, 0) from rfl) (List.Mem.tail _ (List.Mem.head _)) ?_
  refine z_aload_n X (x := q1) (show cdA 350 1440 = some (.aload_n 0, 1, 0, 0, 0) from rfl) (List.Mem.head _) ?_
  refine z_load X (x := i) (show cdA 350 1441 = some (.iload 4, 2, 0, 0, 0) from rfl) (List.Mem.tail _ (List.Mem.tail _ (List.Mem.tail _ (List.Mem.tail _ (List.Mem.head _))))) ?_
  refine z_const X (show cdA 350 1443 = some (.iconst 1, 1, 0, 0, 0) from rfl) ?_
  refine z_add X (show cdA 350 1444 = some (.iadd, 1, 0, 0, 0) from rfl) ?_
  refine z_sld X S hL (show cdA 350 1445 = some (.iaload, 1, 0, 0, 0) from rfl) (show 0 ≤ (i + 1) ∧ (i + 1) < (L : Int) by omega) ?_
  have sr7 : rng (sc xs (i + 1)) := sc_rng
  refine z_aload_n X (x := A 517) (show cdA 350 1446 = some (.aload_n 3, 1, 0, 0, 0) from rfl) (List.Mem.tail _ (List.Mem.tail _ (List.Mem.tail _ (List.Mem.head _)))) ?_
  refine z_callL X (rm := rmN 342) (As := [.ref (A 0), .int (Int32.ofInt (sc xs (i + 1))), .ref (A 517)]) (st := []) (show cdA 350 1447 = some (.invokestatic 253, 3, 342, 6, 0) from rfl) (by decide) rfl (by rw [E.1, E.2.1, E.2.2.1]; exact lw_enough G I (by omega) (by omega)) ⟨by rw [E.2.2.2]; exact (show 13 + 1 ≤ 2048 by omega), by rw [E.2.2.2]; exact (show 8 + (4 + 11) + 273 ≤ 84000 by omega), by rw [E.2.2.2]; exact (show ce + 1 ≤ 601024 by omega), by rw [E.2.2.2]; exact (show sl + 6 ≤ 7293034 by omega)⟩ (Nat.le_of_ble_eq_true rfl) (fun vv A s8 hA2 hq => ?_) (fun ee A s8 hA2 hq => ?_)
  rotate_left
  · obtain ⟨Is8, Fs8, e9, hv, hrs8, hps8⟩ := hq; cases hv
  obtain ⟨Is8, Fs8, e9, hv, hrs8, hps8⟩ := hq
  cases hv
  rw [← hA2 0 (by decide)]
  rw [← hA2 179 (by decide)]
  rw [← hA2 517 (by decide)]
  have Gs8 := fm_ts F Fs8 (by decide) (by decide)
  have JRLx_s8 : RLx s8 := RLx_fm Fs8 (by decide) jR
  have JFEQ_s8 : FEQ s8 := FEQ_fm Fs8 (by decide) jFEQ
  have ws8_0 : iI s8 0 = iI s 0 := fm_i Fs8 (by decide)
  have ws8_74 : iI s8 74 = iI s 74 := fm_i Fs8 (by decide)
  have ws8_9 : iI s8 9 = iI s 9 := fm_i Fs8 (by decide)
  have ws8_90 : iI s8 90 = iI s 90 := fm_i Fs8 (by decide)
  have ws8_12 : iI s8 12 = iI s 12 := fm_i Fs8 (by decide)
  have ws8_89 : iI s8 89 = iI s 89 := fm_i Fs8 (by decide)
  show WS k 1450 [(0, .ref q1), (1, .ref (A 0)), (2, .ref (A 179)), (3, .ref (A 517)), (4, .int (Int32.ofInt i))] [.int (Int32.ofInt e9)] (Wd A dT s8) (ce + 1) (sl + 6)
  refine z_store X (lv' := [(5, .int (Int32.ofInt e9)), (0, .ref q1), (1, .ref (A 0)), (2, .ref (A 179)), (3, .ref (A 517)), (4, .int (Int32.ofInt i))]) (show cdA 350 1450 = some (.istore 5, 2, 0, 0, 0) from rfl) (by decide) (fun _ h => h) ?_
  refine z_aload_n X (x := A 179) (show cdA 350 1452 = some (.aload_n 2, 1, 0, 0, 0) from rfl) (List.Mem.tail _ (List.Mem.tail _ (List.Mem.tail _ (List.Mem.head _)))) ?_
  refine z_aload_n X (x := q1) (show cdA 350 1453 = some (.aload_n 0, 1, 0, 0, 0) from rfl) (List.Mem.tail _ (List.Mem.head _)) ?_
  refine z_load X (x := i) (show cdA 350 1454 = some (.iload 4, 2, 0, 0, 0) from rfl) (List.Mem.tail _ (List.Mem.tail _ (List.Mem.tail _ (List.Mem.tail _ (List.Mem.tail _ (List.Mem.head _)))))) ?_
  refine z_const X (show cdA 350 1456 = some (.iconst 1, 1, 0, 0, 0) from rfl) ?_
  refine z_add X (show cdA 350 1457 = some (.iadd, 1, 0, 0, 0) from rfl) ?_
  refine z_sld X S hL (show cdA 350 1458 = some (.iaload, 1, 0, 0, 0) from rfl) (show 0 ≤ (i + 1) ∧ (i + 1) < (L : Int) by omega) ?_
  have sr10 : rng (sc xs (i + 1)) := sc_rng
  refine z_callV X 179 (rm := rmN 278) (As := [.int (Int32.ofInt (sc xs (i + 1)))]) (st := []) (show cdA 350 1459 = some (.invokevirtual 255, 3, 278, 0, 0) from rfl) rfl (by decide) rfl (by rw [E.1, E.2.1, E.2.2.1]; exact k_enough G Is8 JRLx_s8 (by first | exact ⟨sr10.1, sr10.2⟩ | omega) (by omega)) ⟨by rw [E.2.2.2]; exact (show 64 + 1 ≤ 2048 by omega), by rw [E.2.2.2]; exact (show 8 + (3 + 11) + 2742 ≤ 84000 by omega), by rw [E.2.2.2]; exact (show (ce + 1) + 24 ≤ 601024 by omega), by rw [E.2.2.2]; exact (show (sl + 6) + 192 ≤ 7293034 by omega)⟩ (Nat.le_of_ble_eq_true rfl) (fun vv s11 hq => ?_) (fun ee s11 hq => ?_)
  rotate_left
  · obtain ⟨Is11, Fs11, JRLx_s11, e12, hv, hrs11, hps11⟩ := hq; cases hv
  obtain ⟨Is11, Fs11, JRLx_s11, e12, hv, hrs11, hps11⟩ := hq
  cases hv
  have Gs11 := fm_ts Gs8 Fs11 (by decide) (by decide +kernel)
  have JRLx_s11 : RLx s11 := RLx_fm Fs11 (by decide) JRLx_s8
  have JFEQ_s11 : FEQ s11 := FEQ_fm Fs11 (by decide) JFEQ_s8
  have ws11_0 : iI s11 0 = iI s8 0 := fm_i Fs11 (by decide)
  have ws11_74 : iI s11 74 = iI s8 74 := fm_i Fs11 (by decide)
  have ws11_9 : iI s11 9 = iI s8 9 := fm_i Fs11 (by decide)
  have ws11_90 : iI s11 90 = iI s8 90 := fm_i Fs11 (by decide)
  have ws11_12 : iI s11 12 = iI s8 12 := fm_i Fs11 (by decide)
  have b13 : (1 : Int) ≤ iI s11 89 ∧ iI s11 89 ≤ 8 := Is11.1 89
  have wos11 : iO s11 = iO s8 := fm_o Fs11 (by decide)
  show WS k 1462 [(5, .int (Int32.ofInt e9)), (0, .ref q1), (1, .ref (A 0)), (2, .ref (A 179)), (3, .ref (A 517)), (4, .int (Int32.ofInt i))] [.int (Int32.ofInt e12)] (Wd A dT s11) ((ce + 1) + 24) ((sl + 6) + 192)
  refine z_store X (lv' := [(6, .int (Int32.ofInt e12)), (5, .int (Int32.ofInt e9)), (0, .ref q1), (1, .ref (A 0)), (2, .ref (A 179)), (3, .ref (A 517)), (4, .int (Int32.ofInt i))]) (show cdA 350 1462 = some (.istore 6, 2, 0, 0, 0) from rfl) (by decide) (fun _ h => h) ?_
  refine z_goto X (t := 1894) (show cdA 350 1464 = some (.goto 430, 3, 0, 0, 0) from rfl) (by decide) ?_
  refine w_widen (ce' := ce + 29) (sl' := sl + 222) (by omega) (by omega) ?_
  exact WS_lv (lv := [(0, .ref q1), (1, .ref (A 0)), (2, .ref (A 179)), (3, .ref (A 517)), (4, .int (Int32.ofInt i))]) (List.forall_mem_cons.mpr ⟨(List.Mem.tail _ (List.Mem.tail _ (List.Mem.head _))), (List.forall_mem_cons.mpr ⟨(List.Mem.tail _ (List.Mem.tail _ (List.Mem.tail _ (List.Mem.head _)))), (List.forall_mem_cons.mpr ⟨(List.Mem.tail _ (List.Mem.tail _ (List.Mem.tail _ (List.Mem.tail _ (List.Mem.head _))))), (List.forall_mem_cons.mpr ⟨(List.Mem.tail _ (List.Mem.tail _ (List.Mem.tail _ (List.Mem.tail _ (List.Mem.tail _ (List.Mem.head _)))))), (List.forall_mem_cons.mpr ⟨(List.Mem.tail _ (List.Mem.tail _ (List.Mem.tail _ (List.Mem.tail _ (List.Mem.tail _ (List.Mem.tail _ (List.Mem.head _))))))), (fun q h => absurd h List.not_mem_nil)⟩)⟩)⟩)⟩)⟩) (hk A _ Is11 JRLx_s11 JFEQ_s11 (by omega) (by omega) (by omega) (by omega))
theorem lc_34 (G : GX l s0 D tys a0 dT) (GR : RS0 s0) (SF : SF0 s0) (GT : TXs0 s0) (GW : TXw0 s0) {k : kx_T} (X : AX k 350 dT) (E : kL k = l ∧ kS0 k = s0 ∧ kD k = D ∧ kR k = room_1) {q1 L : Nat} {xs : Nat → Int32} (S : SX k q1 L xs) (hL : L ≤ 3072) (I : Bd s) (jR : RLx s) (jFEQ : FEQ s) (p1 : iI s 89 = 1) (p2 : iI s 12 ≤ 8) (p3 : iI s 0 = iI s 74) (p4 : iI s 9 = iI s 90) {i : Int} (hi : 0 ≤ i ∧ i + 6 ≤ (L : Int)) {ce sl : Nat} (hce : ce + 29 ≤ 601024) (hsl : sl + 222 ≤ 7293034) (hk : ∀ (A : Nat → Nat) (t : PS), Bd t → RLx t → FEQ t → iI t 89 = 1 → iI t 12 ≤ 8 → iI t 0 = iI t 74 → iI t 9 = iI t 90 → WS k 1894 [(0, .ref q1), (1, .ref (A 0)), (2, .ref (A 179)), (3, .ref (A 517)), (4, .int (Int32.ofInt i))] [] (Wd A dT t) (ce + 29) (sl + 222)) : WS k 1467 [(0, .ref q1), (1, .ref (A 0)), (2, .ref (A 179)), (3, .ref (A 517)), (4, .int (Int32.ofInt i))] [] (Wd A dT s) ce sl := by
  have F : Fm [1000, 1001, 73] [1460, 399] s s := fm_rf _ _ s
  have b1 : (0 : Int) ≤ iI s 0 ∧ iI s 0 ≤ 200 := I.1 0
  have b2 : (0 : Int) ≤ iI s 74 ∧ iI s 74 ≤ 200 := I.1 74
  have b3 : (0 : Int) ≤ iI s 9 ∧ iI s 9 ≤ 12 := I.1 9
  have b4 : (0 : Int) ≤ iI s 90 ∧ iI s 90 ≤ 12 := I.1 90
  have b5 : (0 : Int) ≤ iI s 12 ∧ iI s 12 ≤ 9 := I.1 12
  have b6 : (1 : Int) ≤ iI s 89 ∧ iI s 89 ≤ 8 := I.1 89
  refine z_aload_n X (x := A 0) (show cdA 350 1467 = some (.aload_n 1, 1, 0, 0, 0) from rfl) (List.Mem.tail _ (List.Mem.head _)) ?_
  refine z_aload_n X (x := q1) (show cdA 350 1468 = some (.aload_n 0, 1, 0, 0, 0) from rfl) (List.Mem.head _) ?_
  refine z_load X (x := i) (show cdA 350 1469 = some (.iload 4, 2, 0, 0, 0) from rfl) (List.Mem.tail _ (List.Mem.tail _ (List.Mem.tail _ (List.Mem.tail _ (List.Mem.head _))))) ?_
  refine z_const X (show cdA 350 1471 = some (.iconst 1, 1, 0, 0, 0) from rfl) ?_
  refine z_add X (show cdA 350 1472 = some (.iadd, 1, 0, 0, 0) from rfl) ?_
  refine z_sld X S hL (show cdA 350 1473 = some (.iaload, 1, 0, 0, 0) from rfl) (show 0 ≤ (i + 1) ∧ (i + 1) < (L : Int) by omega) ?_
  have sr7 : rng (sc xs (i + 1)) := sc_rng
  refine z_aload_n X (x := q1) (show cdA 350 1474 = some (.aload_n 0, 1, 0, 0, 0) from rfl) (List.Mem.head _) ?_
  refine z_load X (x := i) (show cdA 350 1475 = some (.iload 4, 2, 0, 0, 0) from rfl) (List.Mem.tail _ (List.Mem.tail _ (List.Mem.tail _ (List.Mem.tail _ (List.Mem.head _))))) ?_
  refine z_const X (show cdA 350 1477 = some (.iconst 2, 1, 0, 0, 0) from rfl) ?_
  refine z_add X (show cdA 350 1478 = some (.iadd, 1, 0, 0, 0) from rfl) ?_
  refine z_sld X S hL (show cdA 350 1479 = some (.iaload, 1, 0, 0, 0) from rfl) (show 0 ≤ (i + 2) ∧ (i + 2) < (L : Int) by omega) ?_
  have sr8 : rng (sc xs (i + 2)) := sc_rng
  have N9 : ∀ e10 : Int, ((((sc xs (i + 2)) = 0) ∧ e10 = 0) ∨ (((sc xs (i + 2)) ≠ 0) ∧ e10 = 1)) → WS k 1488 [(0, .ref q1), (1, .ref (A 0)), (2, .ref (A 179)), (3, .ref (A 517)), (4, .int (Int32.ofInt i))] [.int (Int32.ofInt e10), .int (Int32.ofInt (sc xs (i + 1))), .ref (A 0)] (Wd A dT s) ce sl := by
    intro e10 he10
    have re10 : 0 ≤ e10 ∧ e10 ≤ 1 := by first | (clear he10; omega) | omega
    refine z_aload_n X (x := A 517) (show cdA 350 1488 = some (.aload_n 3, 1, 0, 0, 0) from rfl) (List.Mem.tail _ (List.Mem.tail _ (List.Mem.tail _ (List.Mem.head _)))) ?_
    refine z_callL X (rm := rmN 343) (As := [.ref (A 0), .int (Int32.ofInt (sc xs (i + 1))), .int (Int32.ofInt e10), .ref (A 517)]) (st := []) (show cdA 350 1489 = some (.invokestatic 256, 3, 343, 6, 0) from rfl) (by decide) rfl (by rw [E.1, E.2.1, E.2.2.1]; exact lw_storm G I (by first | (clear he10; omega) | omega) (by first | (clear he10; omega) | omega)) ⟨by rw [E.2.2.2]; exact (show 9 + 1 ≤ 2048 by first | (clear he10; omega) | omega), by rw [E.2.2.2]; exact (show 8 + (5 + 11) + 168 ≤ 84000 by first | (clear he10; omega) | omega), by rw [E.2.2.2]; exact (show ce + 1 ≤ 601024 by first | (clear he10; omega) | omega), by rw [E.2.2.2]; exact (show sl + 6 ≤ 7293034 by first | (clear he10; omega) | omega)⟩ (Nat.le_of_ble_eq_true rfl) (fun vv A s11 hA2 hq => ?_) (fun ee A s11 hA2 hq => ?_)
    rotate_left
    · obtain ⟨Is11, Fs11, e12, hv, hrs11, hps11⟩ := hq; cases hv
    obtain ⟨Is11, Fs11, e12, hv, hrs11, hps11⟩ := hq
    cases hv
    rw [← hA2 0 (by decide)]
    rw [← hA2 179 (by decide)]
    rw [← hA2 517 (by decide)]
    have Gs11 := fm_ts F Fs11 (by decide) (by decide)
    have JRLx_s11 : RLx s11 := RLx_fm Fs11 (by decide) jR
    have JFEQ_s11 : FEQ s11 := FEQ_fm Fs11 (by decide) jFEQ
    have ws11_0 : iI s11 0 = iI s 0 := fm_i Fs11 (by decide)
    have ws11_74 : iI s11 74 = iI s 74 := fm_i Fs11 (by decide)
    have ws11_9 : iI s11 9 = iI s 9 := fm_i Fs11 (by decide)
    have ws11_90 : iI s11 90 = iI s 90 := fm_i Fs11 (by decide)
    have ws11_12 : iI s11 12 = iI s 12 := fm_i Fs11 (by decide)
    have ws11_89 : iI s11 89 = iI s 89 := fm_i Fs11 (by decide)
    show WS k 1492 [(0, .ref q1), (1, .ref (A 0)), (2, .ref (A 179)), (3, .ref (A 517)), (4, .int (Int32.ofInt i))] [.int (Int32.ofInt e12)] (Wd A dT s11) (ce + 1) (sl + 6)
    refine z_store X (lv' := [(5, .int (Int32.ofInt e12)), (0, .ref q1), (1, .ref (A 0)), (2, .ref (A 179)), (3, .ref (A 517)), (4, .int (Int32.ofInt i))]) (show cdA 350 1492 = some (.istore 5, 2, 0, 0, 0) from rfl) (by decide) (fun _ h => h) ?_
    refine z_aload_n X (x := A 179) (show cdA 350 1494 = some (.aload_n 2, 1, 0, 0, 0) from rfl) (List.Mem.tail _ (List.Mem.tail _ (List.Mem.tail _ (List.Mem.head _)))) ?_
    refine z_aload_n X (x := q1) (show cdA 350 1495 = some (.aload_n 0, 1, 0, 0, 0) from rfl) (List.Mem.tail _ (List.Mem.head _)) ?_
    refine z_load X (x := i) (show cdA 350 1496 = some (.iload 4, 2, 0, 0, 0) from rfl) (List.Mem.tail _ (List.Mem.tail _ (List.Mem.tail _ (List.Mem.tail _ (List.Mem.tail _ (List.Mem.head _)))))) ?_
    refine z_const X (show cdA 350 1498 = some (.iconst 1, 1, 0, 0, 0) from rfl) ?_
    refine z_add X (show cdA 350 1499 = some (.iadd, 1, 0, 0, 0) from rfl) ?_
    refine z_sld X S hL (show cdA 350 1500 = some (.iaload, 1, 0, 0, 0) from rfl) (show 0 ≤ (i + 1) ∧ (i + 1) < (L : Int) by first | (clear he10; omega) | omega) ?_
    have sr13 : rng (sc xs (i + 1)) := sc_rng
    refine z_aload_n X (x := q1) (show cdA 350 1501 = some (.aload_n 0, 1, 0, 0, 0) from rfl) (List.Mem.tail _ (List.Mem.head _)) ?_
    refine z_load X (x := i) (show cdA 350 1502 = some (.iload 4, 2, 0, 0, 0) from rfl) (List.Mem.tail _ (List.Mem.tail _ (List.Mem.tail _ (List.Mem.tail _ (List.Mem.tail _ (List.Mem.head _)))))) ?_
    refine z_const X (show cdA 350 1504 = some (.iconst 2, 1, 0, 0, 0) from rfl) ?_
    refine z_add X (show cdA 350 1505 = some (.iadd, 1, 0, 0, 0) from rfl) ?_
    refine z_sld X S hL (show cdA 350 1506 = some (.iaload, 1, 0, 0, 0) from rfl) (show 0 ≤ (i + 2) ∧ (i + 2) < (L : Int) by first | (clear he10; omega) | omega) ?_
    have sr14 : rng (sc xs (i + 2)) := sc_rng
    have N15 : ∀ e16 : Int, ((((sc xs (i + 2)) = 0) ∧ e16 = 0) ∨ (((sc xs (i + 2)) ≠ 0) ∧ e16 = 1)) → WS k 1515 [(5, .int (Int32.ofInt e12)), (0, .ref q1), (1, .ref (A 0)), (2, .ref (A 179)), (3, .ref (A 517)), (4, .int (Int32.ofInt i))] [.int (Int32.ofInt e16), .int (Int32.ofInt (sc xs (i + 1))), .ref (A 179)] (Wd A dT s11) (ce + 1) (sl + 6) := by
      intro e16 he16
      have re16 : 0 ≤ e16 ∧ e16 ≤ 1 := by first | (clear he16 he10; omega) | (clear he10; omega) | omega
      refine z_callV X 179 (rm := rmN 279) (As := [.int (Int32.ofInt (sc xs (i + 1))), .int (Int32.ofInt e16)]) (st := []) (show cdA 350 1515 = some (.invokevirtual 259, 3, 279, 0, 0) from rfl) rfl (by decide) rfl (by rw [E.1, E.2.1, E.2.2.1]; exact k_storm G Is11 (by first | exact ⟨sr13.1, sr13.2⟩ | omega) (by first | (clear he16 he10; omega) | (clear he10; omega) | omega)) ⟨by rw [E.2.2.2]; exact (show 7 + 1 ≤ 2048 by first | (clear he16 he10; omega) | (clear he10; omega) | omega), by rw [E.2.2.2]; exact (show 8 + (4 + 11) + 122 ≤ 84000 by first | (clear he16 he10; omega) | (clear he10; omega) | omega), by rw [E.2.2.2]; exact (show (ce + 1) + 0 ≤ 601024 by first | (clear he16 he10; omega) | (clear he10; omega) | omega), by rw [E.2.2.2]; exact (show (sl + 6) + 0 ≤ 7293034 by first | (clear he16 he10; omega) | (clear he10; omega) | omega)⟩ (Nat.le_of_ble_eq_true rfl) (fun vv s17 hq => ?_) (fun ee s17 hq => ?_)
      rotate_left
      · obtain ⟨Is17, Fs17, e18, hv, hrs17, hps17⟩ := hq; cases hv
      obtain ⟨Is17, Fs17, e18, hv, hrs17, hps17⟩ := hq
      cases hv
      have Gs17 := fm_ts Gs11 Fs17 (by decide) (by decide)
      have JRLx_s17 : RLx s17 := RLx_fm Fs17 (by decide) JRLx_s11
      have JFEQ_s17 : FEQ s17 := FEQ_fm Fs17 (by decide) JFEQ_s11
      have ws17_0 : iI s17 0 = iI s11 0 := fm_i Fs17 (by decide)
      have ws17_74 : iI s17 74 = iI s11 74 := fm_i Fs17 (by decide)
      have ws17_9 : iI s17 9 = iI s11 9 := fm_i Fs17 (by decide)
      have ws17_90 : iI s17 90 = iI s11 90 := fm_i Fs17 (by decide)
      have ws17_12 : iI s17 12 = iI s11 12 := fm_i Fs17 (by decide)
      have ws17_89 : iI s17 89 = iI s11 89 := fm_i Fs17 (by decide)
      have wos17 : iO s17 = iO s11 := fm_o Fs17 (by decide)
      show WS k 1518 [(5, .int (Int32.ofInt e12)), (0, .ref q1), (1, .ref (A 0)), (2, .ref (A 179)), (3, .ref (A 517)), (4, .int (Int32.ofInt i))] [.int (Int32.ofInt e18)] (Wd A dT s17) (ce + 1) (sl + 6)
      refine z_store X (lv' := [(6, .int (Int32.ofInt e18)), (5, .int (Int32.ofInt e12)), (0, .ref q1), (1, .ref (A 0)), (2, .ref (A 179)), (3, .ref (A 517)), (4, .int (Int32.ofInt i))]) (show cdA 350 1518 = some (.istore 6, 2, 0, 0, 0) from rfl) (by decide) (fun _ h => h) ?_
      refine z_goto X (t := 1894) (show cdA 350 1520 = some (.goto 374, 3, 0, 0, 0) from rfl) (by decide) ?_
      refine w_widen (ce' := ce + 29) (sl' := sl + 222) (by first | (clear he16 he10; omega) | (clear he10; omega) | omega) (by first | (clear he16 he10; omega) | (clear he10; omega) | omega) ?_
      exact WS_lv (lv := [(0, .ref q1), (1, .ref (A 0)), (2, .ref (A 179)), (3, .ref (A 517)), (4, .int (Int32.ofInt i))]) (List.forall_mem_cons.mpr ⟨(List.Mem.tail _ (List.Mem.tail _ (List.Mem.head _))), (List.forall_mem_cons.mpr ⟨(List.Mem.tail _ (List.Mem.tail _ (List.Mem.tail _ (List.Mem.head _)))), (List.forall_mem_cons.mpr ⟨(List.Mem.tail _ (List.Mem.tail _ (List.Mem.tail _ (List.Mem.tail _ (List.Mem.head _))))), (List.forall_mem_cons.mpr ⟨(List.Mem.tail _ (List.Mem.tail _ (List.Mem.tail _ (List.Mem.tail _ (List.Mem.tail _ (List.Mem.head _)))))), (List.forall_mem_cons.mpr ⟨(List.Mem.tail _ (List.Mem.tail _ (List.Mem.tail _ (List.Mem.tail _ (List.Mem.tail _ (List.Mem.tail _ (List.Mem.head _))))))), (fun q h => absurd h List.not_mem_nil)⟩)⟩)⟩)⟩)⟩) (hk A _ Is17 JRLx_s17 JFEQ_s17 (by first | (clear he16 he10; omega) | (clear he10; omega) | omega) (by first | (clear he16 he10; omega) | (clear he10; omega) | omega) (by first | (clear he16 he10; omega) | (clear he10; omega) | omega) (by first | (clear he16 he10; omega) | (clear he10; omega) | omega))
    refine z_if_eq X (t := 1514) (show cdA 350 1507 = some (.ifCond .eq 7, 3, 0, 0, 1) from rfl) (by decide) ⟨by first | exact sr14.1 | omega, by first | exact sr14.2 | omega⟩ (fun g19 => ?_) (fun g19 => ?_)
    ·
      refine z_const X (show cdA 350 1514 = some (.iconst 0, 1, 0, 0, 0) from rfl) ?_
      exact N15 _ (Or.inl ⟨g19, rfl⟩)
    ·
      refine z_const X (show cdA 350 1510 = some (.iconst 1, 1, 0, 0, 0) from rfl) ?_
      refine z_goto X (t := 1515) (show cdA 350 1511 = some (.goto 4, 3, 0, 0, 0) from rfl) (by decide) ?_
      exact N15 _ (Or.inr (⟨g19, rfl⟩))
  refine z_if_eq X (t := 1487) (show cdA 350 1480 = some (.ifCond .eq 7, 3, 0, 0, 1) from rfl) (by decide) ⟨by first | exact sr8.1 | omega, by first | exact sr8.2 | omega⟩ (fun g20 => ?_) (fun g20 => ?_)
  ·
    refine z_const X (show cdA 350 1487 = some (.iconst 0, 1, 0, 0, 0) from rfl) ?_
    exact N9 _ (Or.inl ⟨g20, rfl⟩)
  ·
    refine z_const X (show cdA 350 1483 = some (.iconst 1, 1, 0, 0, 0) from rfl) ?_
    refine z_goto X (t := 1488) (show cdA 350 1484 = some (.goto 4, 3, 0, 0, 0) from rfl) (by decide) ?_
    exact N9 _ (Or.inr (⟨g20, rfl⟩))
theorem lc_35 (G : GX l s0 D tys a0 dT) (GR : RS0 s0) (SF : SF0 s0) (GT : TXs0 s0) (GW : TXw0 s0) {k : kx_T} (X : AX k 350 dT) (E : kL k = l ∧ kS0 k = s0 ∧ kD k = D ∧ kR k = room_1) {q1 L : Nat} {xs : Nat → Int32} (S : SX k q1 L xs) (hL : L ≤ 3072) (I : Bd s) (jR : RLx s) (jFEQ : FEQ s) (p1 : iI s 89 = 1) (p2 : iI s 12 ≤ 8) (p3 : iI s 0 = iI s 74) (p4 : iI s 9 = iI s 90) {i : Int} (hi : 0 ≤ i ∧ i + 6 ≤ (L : Int)) {ce sl : Nat} (hce : ce + 29 ≤ 601024) (hsl : sl + 222 ≤ 7293034) (hk : ∀ (A : Nat → Nat) (t : PS), Bd t → RLx t → FEQ t → iI t 89 = 1 → iI t 12 ≤ 8 → iI t 0 = iI t 74 → iI t 9 = iI t 90 → WS k 1894 [(0, .ref q1), (1, .ref (A 0)), (2, .ref (A 179)), (3, .ref (A 517)), (4, .int (Int32.ofInt i))] [] (Wd A dT t) (ce + 29) (sl + 222)) : WS k 1523 [(0, .ref q1), (1, .ref (A 0)), (2, .ref (A 179)), (3, .ref (A 517)), (4, .int (Int32.ofInt i))] [] (Wd A dT s) ce sl := by
  have F : Fm [43, 44, 46, 47, 49, 50, 52, 53, 55, 56, 58, 59, 61, 62, 64, 65, 67, 68, 42, 39, 40, 41, 73, 105, 106, 77, 75, 78, 79, 80, 81] [57, 58, 67, 62, 77, 78, 79, 73, 87, 80, 81, 82, 83, 84, 85, 86, 96, 89, 90, 91, 92, 93, 94, 95, 105, 98, 99, 100, 101, 102, 103, 104, 114, 107, 108, 109, 110, 111, 112, 113, 123, 116, 117, 118, 119, 120, 121, 122, 132, 125, 126, 127, 128, 129, 130, 131, 141, 134, 135, 136, 137, 138, 139, 140, 150, 143, 144, 145, 146, 147, 148, 149, 20, 76, 74, 75, 72, 1059, 1060, 1061, 1063, 1460, 401, 400, 403, 404, 232, 402, 405, 406, 407, 408, 409, 410, 411, 412, 413, 414, 415, 416, 202, 204, 205, 206, 207, 208, 209, 210, 211, 212, 213, 214, 215, 216, 217, 218, 219, 220, 221, 222, 223, 224, 225, 226, 227, 203, 161, 230] s s := fm_rf _ _ s
  have b1 : (0 : Int) ≤ iI s 0 ∧ iI s 0 ≤ 200 := I.1 0
  have b2 : (0 : Int) ≤ iI s 74 ∧ iI s 74 ≤ 200 := I.1 74
  have b3 : (0 : Int) ≤ iI s 9 ∧ iI s 9 ≤ 12 := I.1 9
  have b4 : (0 : Int) ≤ iI s 90 ∧ iI s 90 ≤ 12 := I.1 90
  have b5 : (0 : Int) ≤ iI s 12 ∧ iI s 12 ≤ 9 := I.1 12
  have b6 : (1 : Int) ≤ iI s 89 ∧ iI s 89 ≤ 8 := I.1 89
  refine z_aload_n X (x := A 0) (show cdA 350 1523 = some (.aload_n 1, 1, 0, 0, 0) from rfl) (List.Mem.tail _ (List.Mem.head _)) ?_
  refine z_aload_n X (x := q1) (show cdA 350 1524 = some (.aload_n 0, 1, 0, 0, 0) from rfl) (List.Mem.head _) ?_
  refine z_load X (x := i) (show cdA 350 1525 = some (.iload 4, 2, 0, 0, 0) from rfl) (List.Mem.tail _ (List.Mem.tail _ (List.Mem.tail _ (List.Mem.tail _ (List.Mem.head _))))) ?_
  refine z_const X (show cdA 350 1527 = some (.iconst 1, 1, 0, 0, 0) from rfl) ?_
  refine z_add X (show cdA 350 1528 = some (.iadd, 1, 0, 0, 0) from rfl) ?_
  refine z_sld X S hL (show cdA 350 1529 = some (.iaload, 1, 0, 0, 0) from rfl) (show 0 ≤ (i + 1) ∧ (i + 1) < (L : Int) by omega) ?_
  have sr7 : rng (sc xs (i + 1)) := sc_rng
  refine z_aload_n X (x := q1) (show cdA 350 1530 = some (.aload_n 0, 1, 0, 0, 0) from rfl) (List.Mem.head _) ?_
  refine z_load X (x := i) (show cdA 350 1531 = some (.iload 4, 2, 0, 0, 0) from rfl) (List.Mem.tail _ (List.Mem.tail _ (List.Mem.tail _ (List.Mem.tail _ (List.Mem.head _))))) ?_
  refine z_const X (show cdA 350 1533 = some (.iconst 2, 1, 0, 0, 0) from rfl) ?_
  refine z_add X (show cdA 350 1534 = some (.iadd, 1, 0, 0, 0) from rfl) ?_
  refine z_sld X S hL (show cdA 350 1535 = some (.iaload, 1, 0, 0, 0) from rfl) (show 0 ≤ (i + 2) ∧ (i + 2) < (L : Int) by omega) ?_
  have sr8 : rng (sc xs (i + 2)) := sc_rng
  refine z_aload_n X (x := q1) (show cdA 350 1536 = some (.aload_n 0, 1, 0, 0, 0) from rfl) (List.Mem.head _) ?_
  refine z_load X (x := i) (show cdA 350 1537 = some (.iload 4, 2, 0, 0, 0) from rfl) (List.Mem.tail _ (List.Mem.tail _ (List.Mem.tail _ (List.Mem.tail _ (List.Mem.head _))))) ?_
  refine z_const X (show cdA 350 1539 = some (.iconst 3, 1, 0, 0, 0) from rfl) ?_
  refine z_add X (show cdA 350 1540 = some (.iadd, 1, 0, 0, 0) from rfl) ?_
  refine z_sld X S hL (show cdA 350 1541 = some (.iaload, 1, 0, 0, 0) from rfl) (show 0 ≤ (i + 3) ∧ (i + 3) < (L : Int) by omega) ?_
  have sr9 : rng (sc xs (i + 3)) := sc_rng
  refine z_aload_n X (x := q1) (show cdA 350 1542 = some (.aload_n 0, 1, 0, 0, 0) from rfl) (List.Mem.head _) ?_
  refine z_load X (x := i) (show cdA 350 1543 = some (.iload 4, 2, 0, 0, 0) from rfl) (List.Mem.tail _ (List.Mem.tail _ (List.Mem.tail _ (List.Mem.tail _ (List.Mem.head _))))) ?_
  refine z_const X (show cdA 350 1545 = some (.iconst 4, 1, 0, 0, 0) from rfl) ?_
  refine z_add X (show cdA 350 1546 = some (.iadd, 1, 0, 0, 0) from rfl) ?_
  refine z_sld X S hL (show cdA 350 1547 = some (.iaload, 1, 0, 0, 0) from rfl) (show 0 ≤ (i + 4) ∧ (i + 4) < (L : Int) by omega) ?_
  have sr10 : rng (sc xs (i + 4)) := sc_rng
  refine z_aload_n X (x := A 517) (show cdA 350 1548 = some (.aload_n 3, 1, 0, 0, 0) from rfl) (List.Mem.tail _ (List.Mem.tail _ (List.Mem.tail _ (List.Mem.head _)))) ?_
  refine z_callL X (rm := rmN 344) (As := [.ref (A 0), .int (Int32.ofInt (sc xs (i + 1))), .int (Int32.ofInt (sc xs (i + 2))), .int (Int32.ofInt (sc xs (i + 3))), .int (Int32.ofInt (sc xs (i + 4))), .ref (A 517)]) (st := []) (show cdA 350 1549 = some (.invokestatic 260, 3, 344, 6, 0) from rfl) (by decide) rfl (by rw [E.1, E.2.1, E.2.2.1]; exact lw_mends G GR I (by omega) (by omega) (by omega) (by omega)) ⟨by rw [E.2.2.2]; exact (show 55 + 1 ≤ 2048 by omega), by rw [E.2.2.2]; exact (show 8 + (7 + 11) + 2372 ≤ 84000 by omega), by rw [E.2.2.2]; exact (show ce + 4 ≤ 601024 by omega), by rw [E.2.2.2]; exact (show sl + 24 ≤ 7293034 by omega)⟩ (Nat.le_of_ble_eq_true rfl) (fun vv A s11 hA2 hq => ?_) (fun ee A s11 hA2 hq => ?_)
  rotate_left
  · obtain ⟨Is11, Fs11, e12, hv, hrs11, hps11⟩ := hq; cases hv
  obtain ⟨Is11, Fs11, e12, hv, hrs11, hps11⟩ := hq
  cases hv
  rw [← hA2 0 (by decide)]
  rw [← hA2 179 (by decide)]
  rw [← hA2 517 (by decide)]
  have Gs11 := fm_ts F Fs11 (by decide) (by decide +kernel)
  have JRLx_s11 : RLx s11 := RLx_fm Fs11 (by decide) jR
  have JFEQ_s11 : FEQ s11 := FEQ_fm Fs11 (by decide) jFEQ
  have ws11_0 : iI s11 0 = iI s 0 := fm_i Fs11 (by decide)
  have ws11_74 : iI s11 74 = iI s 74 := fm_i Fs11 (by decide)
  have ws11_9 : iI s11 9 = iI s 9 := fm_i Fs11 (by decide)
  have ws11_90 : iI s11 90 = iI s 90 := fm_i Fs11 (by decide)
  have ws11_12 : iI s11 12 = iI s 12 := fm_i Fs11 (by decide)
  have ws11_89 : iI s11 89 = iI s 89 := fm_i Fs11 (by decide)
  show WS k 1552 [(0, .ref q1), (1, .ref (A 0)), (2, .ref (A 179)), (3, .ref (A 517)), (4, .int (Int32.ofInt i))] [.int (Int32.ofInt e12)] (Wd A dT s11) (ce + 4) (sl + 24)
  refine z_store X (lv' := [(5, .int (Int32.ofInt e12)), (0, .ref q1), (1, .ref (A 0)), (2, .ref (A 179)), (3, .ref (A 517)), (4, .int (Int32.ofInt i))]) (show cdA 350 1552 = some (.istore 5, 2, 0, 0, 0) from rfl) (by decide) (fun _ h => h) ?_
  refine z_aload_n X (x := A 179) (show cdA 350 1554 = some (.aload_n 2, 1, 0, 0, 0) from rfl) (List.Mem.tail _ (List.Mem.tail _ (List.Mem.tail _ (List.Mem.head _)))) ?_
  refine z_aload_n X (x := q1) (show cdA 350 1555 = some (.aload_n 0, 1, 0, 0, 0) from rfl) (List.Mem.tail _ (List.Mem.head _)) ?_
  refine z_load X (x := i) (show cdA 350 1556 = some (.iload 4, 2, 0, 0, 0) from rfl) (List.Mem.tail _ (List.Mem.tail _ (List.Mem.tail _ (List.Mem.tail _ (List.Mem.tail _ (List.Mem.head _)))))) ?_
  refine z_const X (show cdA 350 1558 = some (.iconst 1, 1, 0, 0, 0) from rfl) ?_
  refine z_add X (show cdA 350 1559 = some (.iadd, 1, 0, 0, 0) from rfl) ?_
  refine z_sld X S hL (show cdA 350 1560 = some (.iaload, 1, 0, 0, 0) from rfl) (show 0 ≤ (i + 1) ∧ (i + 1) < (L : Int) by omega) ?_
  have sr13 : rng (sc xs (i + 1)) := sc_rng
  refine z_aload_n X (x := q1) (show cdA 350 1561 = some (.aload_n 0, 1, 0, 0, 0) from rfl) (List.Mem.tail _ (List.Mem.head _)) ?_
  refine z_load X (x := i) (show cdA 350 1562 = some (.iload 4, 2, 0, 0, 0) from rfl) (List.Mem.tail _ (List.Mem.tail _ (List.Mem.tail _ (List.Mem.tail _ (List.Mem.tail _ (List.Mem.head _)))))) ?_
  refine z_const X (show cdA 350 1564 = some (.iconst 2, 1, 0, 0, 0) from rfl) ?_
  refine z_add X (show cdA 350 1565 = some (.iadd, 1, 0, 0, 0) from rfl) ?_
  refine z_sld X S hL (show cdA 350 1566 = some (.iaload, 1, 0, 0, 0) from rfl) (show 0 ≤ (i + 2) ∧ (i + 2) < (L : Int) by omega) ?_
  have sr14 : rng (sc xs (i + 2)) := sc_rng
  refine z_aload_n X (x := q1) (show cdA 350 1567 = some (.aload_n 0, 1, 0, 0, 0) from rfl) (List.Mem.tail _ (List.Mem.head _)) ?_
  refine z_load X (x := i) (show cdA 350 1568 = some (.iload 4, 2, 0, 0, 0) from rfl) (List.Mem.tail _ (List.Mem.tail _ (List.Mem.tail _ (List.Mem.tail _ (List.Mem.tail _ (List.Mem.head _)))))) ?_
  refine z_const X (show cdA 350 1570 = some (.iconst 3, 1, 0, 0, 0) from rfl) ?_
  refine z_add X (show cdA 350 1571 = some (.iadd, 1, 0, 0, 0) from rfl) ?_
  refine z_sld X S hL (show cdA 350 1572 = some (.iaload, 1, 0, 0, 0) from rfl) (show 0 ≤ (i + 3) ∧ (i + 3) < (L : Int) by omega) ?_
  have sr15 : rng (sc xs (i + 3)) := sc_rng
  refine z_aload_n X (x := q1) (show cdA 350 1573 = some (.aload_n 0, 1, 0, 0, 0) from rfl) (List.Mem.tail _ (List.Mem.head _)) ?_
  refine z_load X (x := i) (show cdA 350 1574 = some (.iload 4, 2, 0, 0, 0) from rfl) (List.Mem.tail _ (List.Mem.tail _ (List.Mem.tail _ (List.Mem.tail _ (List.Mem.tail _ (List.Mem.head _)))))) ?_
  refine z_const X (show cdA 350 1576 = some (.iconst 4, 1, 0, 0, 0) from rfl) ?_
  refine z_add X (show cdA 350 1577 = some (.iadd, 1, 0, 0, 0) from rfl) ?_
  refine z_sld X S hL (show cdA 350 1578 = some (.iaload, 1, 0, 0, 0) from rfl) (show 0 ≤ (i + 4) ∧ (i + 4) < (L : Int) by omega) ?_
  have sr16 : rng (sc xs (i + 4)) := sc_rng
  refine z_callV X 179 (rm := rmN 286) (As := [.int (Int32.ofInt (sc xs (i + 1))), .int (Int32.ofInt (sc xs (i + 2))), .int (Int32.ofInt (sc xs (i + 3))), .int (Int32.ofInt (sc xs (i + 4)))]) (st := []) (show cdA 350 1579 = some (.invokevirtual 263, 3, 286, 0, 0) from rfl) rfl (by decide) rfl (by rw [E.1, E.2.1, E.2.2.1]; exact k_mends G Is11 JRLx_s11 (by first | exact ⟨sr13.1, sr13.2⟩ | omega) (by first | exact ⟨sr14.1, sr14.2⟩ | omega) (by first | exact ⟨sr15.1, sr15.2⟩ | omega) (by first | exact ⟨sr16.1, sr16.2⟩ | omega)) ⟨by rw [E.2.2.2]; exact (show 73 + 1 ≤ 2048 by omega), by rw [E.2.2.2]; exact (show 8 + (7 + 11) + 3227 ≤ 84000 by omega), by rw [E.2.2.2]; exact (show (ce + 4) + 0 ≤ 601024 by omega), by rw [E.2.2.2]; exact (show (sl + 24) + 0 ≤ 7293034 by omega)⟩ (Nat.le_of_ble_eq_true rfl) (fun vv s17 hq => ?_) (fun ee s17 hq => ?_)
  rotate_left
  · obtain ⟨Is17, Fs17, JRLx_s17, e18, hv, hrs17, hps17⟩ := hq; cases hv
  obtain ⟨Is17, Fs17, JRLx_s17, e18, hv, hrs17, hps17⟩ := hq
  cases hv
  have Gs17 := fm_ts Gs11 Fs17 (by decide) (by decide)
  have JRLx_s17 : RLx s17 := RLx_fm Fs17 (by decide) JRLx_s11
  have JFEQ_s17 : FEQ s17 := FEQ_fm Fs17 (by decide) JFEQ_s11
  have ws17_0 : iI s17 0 = iI s11 0 := fm_i Fs17 (by decide)
  have ws17_74 : iI s17 74 = iI s11 74 := fm_i Fs17 (by decide)
  have ws17_9 : iI s17 9 = iI s11 9 := fm_i Fs17 (by decide)
  have ws17_90 : iI s17 90 = iI s11 90 := fm_i Fs17 (by decide)
  have ws17_12 : iI s17 12 = iI s11 12 := fm_i Fs17 (by decide)
  have ws17_89 : iI s17 89 = iI s11 89 := fm_i Fs17 (by decide)
  have wos17 : iO s17 = iO s11 := fm_o Fs17 (by decide)
  show WS k 1582 [(5, .int (Int32.ofInt e12)), (0, .ref q1), (1, .ref (A 0)), (2, .ref (A 179)), (3, .ref (A 517)), (4, .int (Int32.ofInt i))] [.int (Int32.ofInt e18)] (Wd A dT s17) (ce + 4) (sl + 24)
  refine z_store X (lv' := [(6, .int (Int32.ofInt e18)), (5, .int (Int32.ofInt e12)), (0, .ref q1), (1, .ref (A 0)), (2, .ref (A 179)), (3, .ref (A 517)), (4, .int (Int32.ofInt i))]) (show cdA 350 1582 = some (.istore 6, 2, 0, 0, 0) from rfl) (by decide) (fun _ h => h) ?_
  refine z_goto X (t := 1894) (show cdA 350 1584 = some (.goto 310, 3, 0, 0, 0) from rfl) (by decide) ?_
  refine w_widen (ce' := ce + 29) (sl' := sl + 222) (by omega) (by omega) ?_
  exact WS_lv (lv := [(0, .ref q1), (1, .ref (A 0)), (2, .ref (A 179)), (3, .ref (A 517)), (4, .int (Int32.ofInt i))]) (List.forall_mem_cons.mpr ⟨(List.Mem.tail _ (List.Mem.tail _ (List.Mem.head _))), (List.forall_mem_cons.mpr ⟨(List.Mem.tail _ (List.Mem.tail _ (List.Mem.tail _ (List.Mem.head _)))), (List.forall_mem_cons.mpr ⟨(List.Mem.tail _ (List.Mem.tail _ (List.Mem.tail _ (List.Mem.tail _ (List.Mem.head _))))), (List.forall_mem_cons.mpr ⟨(List.Mem.tail _ (List.Mem.tail _ (List.Mem.tail _ (List.Mem.tail _ (List.Mem.tail _ (List.Mem.head _)))))), (List.forall_mem_cons.mpr ⟨(List.Mem.tail _ (List.Mem.tail _ (List.Mem.tail _ (List.Mem.tail _ (List.Mem.tail _ (List.Mem.tail _ (List.Mem.head _))))))), (fun q h => absurd h List.not_mem_nil)⟩)⟩)⟩)⟩)⟩) (hk A _ Is17 JRLx_s17 JFEQ_s17 (by omega) (by omega) (by omega) (by omega))
theorem lc_36 (G : GX l s0 D tys a0 dT) (GR : RS0 s0) (SF : SF0 s0) (GT : TXs0 s0) (GW : TXw0 s0) {k : kx_T} (X : AX k 350 dT) (E : kL k = l ∧ kS0 k = s0 ∧ kD k = D ∧ kR k = room_1) {q1 L : Nat} {xs : Nat → Int32} (S : SX k q1 L xs) (hL : L ≤ 3072) (I : Bd s) (jR : RLx s) (jFEQ : FEQ s) (p1 : iI s 89 = 1) (p2 : iI s 12 ≤ 8) (p3 : iI s 0 = iI s 74) (p4 : iI s 9 = iI s 90) {i : Int} (hi : 0 ≤ i ∧ i + 6 ≤ (L : Int)) {ce sl : Nat} (hce : ce + 29 ≤ 601024) (hsl : sl + 222 ≤ 7293034) (hk : ∀ (A : Nat → Nat) (t : PS), Bd t → RLx t → FEQ t → iI t 89 = 1 → iI t 12 ≤ 8 → iI t 0 = iI t 74 → iI t 9 = iI t 90 → WS k 1894 [(0, .ref q1), (1, .ref (A 0)), (2, .ref (A 179)), (3, .ref (A 517)), (4, .int (Int32.ofInt i))] [] (Wd A dT t) (ce + 29) (sl + 222)) : WS k 1587 [(0, .ref q1), (1, .ref (A 0)), (2, .ref (A 179)), (3, .ref (A 517)), (4, .int (Int32.ofInt i))] [] (Wd A dT s) ce sl := by
  have F : Fm [22, 23, 70, 73, 107, 77, 75, 78, 79, 80, 81] [33, 26, 27, 28, 29, 30, 31, 32, 152, 153, 154, 1460, 202, 204, 205, 206, 207, 208, 209, 210, 211, 212, 213, 214, 215, 216, 217, 218, 219, 220, 221, 222, 223, 224, 225, 226, 227, 203, 161, 230, 417, 418, 419, 420, 421, 422, 423, 424, 425, 426, 427, 428, 429, 430, 431, 432, 433, 434, 435, 436, 437, 438, 439, 440, 441, 442, 443, 444, 445, 446, 447, 448, 449, 450, 451, 452, 453, 454, 455, 456, 457, 459] s s := fm_rf _ _ s
  have b1 : (0 : Int) ≤ iI s 0 ∧ iI s 0 ≤ 200 := I.1 0
  have b2 : (0 : Int) ≤ iI s 74 ∧ iI s 74 ≤ 200 := I.1 74
  have b3 : (0 : Int) ≤ iI s 9 ∧ iI s 9 ≤ 12 := I.1 9
  have b4 : (0 : Int) ≤ iI s 90 ∧ iI s 90 ≤ 12 := I.1 90
  have b5 : (0 : Int) ≤ iI s 12 ∧ iI s 12 ≤ 9 := I.1 12
  have b6 : (1 : Int) ≤ iI s 89 ∧ iI s 89 ≤ 8 := I.1 89
  refine z_aload_n X (x := A 0) (show cdA 350 1587 = some (.aload_n 1, 1, 0, 0, 0) from rfl) (List.Mem.tail _ (List.Mem.head _)) ?_
  refine z_aload_n X (x := q1) (show cdA 350 1588 = some (.aload_n 0, 1, 0, 0, 0) from rfl) (List.Mem.head _) ?_
  refine z_load X (x := i) (show cdA 350 1589 = some (.iload 4, 2, 0, 0, 0) from rfl) (List.Mem.tail _ (List.Mem.tail _ (List.Mem.tail _ (List.Mem.tail _ (List.Mem.head _))))) ?_
  refine z_const X (show cdA 350 1591 = some (.iconst 1, 1, 0, 0, 0) from rfl) ?_
  refine z_add X (show cdA 350 1592 = some (.iadd, 1, 0, 0, 0) from rfl) ?_
  refine z_sld X S hL (show cdA 350 1593 = some (.iaload, 1, 0, 0, 0) from rfl) (show 0 ≤ (i + 1) ∧ (i + 1) < (L : Int) by omega) ?_
  have sr7 : rng (sc xs (i + 1)) := sc_rng
  refine z_aload_n X (x := q1) (show cdA 350 1594 = some (.aload_n 0, 1, 0, 0, 0) from rfl) (List.Mem.head _) ?_
  refine z_load X (x := i) (show cdA 350 1595 = some (.iload 4, 2, 0, 0, 0) from rfl) (List.Mem.tail _ (List.Mem.tail _ (List.Mem.tail _ (List.Mem.tail _ (List.Mem.head _))))) ?_
  refine z_const X (show cdA 350 1597 = some (.iconst 2, 1, 0, 0, 0) from rfl) ?_
  refine z_add X (show cdA 350 1598 = some (.iadd, 1, 0, 0, 0) from rfl) ?_
  refine z_sld X S hL (show cdA 350 1599 = some (.iaload, 1, 0, 0, 0) from rfl) (show 0 ≤ (i + 2) ∧ (i + 2) < (L : Int) by omega) ?_
  have sr8 : rng (sc xs (i + 2)) := sc_rng
  refine z_aload_n X (x := q1) (show cdA 350 1600 = some (.aload_n 0, 1, 0, 0, 0) from rfl) (List.Mem.head _) ?_
  refine z_load X (x := i) (show cdA 350 1601 = some (.iload 4, 2, 0, 0, 0) from rfl) (List.Mem.tail _ (List.Mem.tail _ (List.Mem.tail _ (List.Mem.tail _ (List.Mem.head _))))) ?_
  refine z_const X (show cdA 350 1603 = some (.iconst 3, 1, 0, 0, 0) from rfl) ?_
  refine z_add X (show cdA 350 1604 = some (.iadd, 1, 0, 0, 0) from rfl) ?_
  refine z_sld X S hL (show cdA 350 1605 = some (.iaload, 1, 0, 0, 0) from rfl) (show 0 ≤ (i + 3) ∧ (i + 3) < (L : Int) by omega) ?_
  have sr9 : rng (sc xs (i + 3)) := sc_rng
  refine z_aload_n X (x := q1) (show cdA 350 1606 = some (.aload_n 0, 1, 0, 0, 0) from rfl) (List.Mem.head _) ?_
  refine z_load X (x := i) (show cdA 350 1607 = some (.iload 4, 2, 0, 0, 0) from rfl) (List.Mem.tail _ (List.Mem.tail _ (List.Mem.tail _ (List.Mem.tail _ (List.Mem.head _))))) ?_
  refine z_const X (show cdA 350 1609 = some (.iconst 4, 1, 0, 0, 0) from rfl) ?_
  refine z_add X (show cdA 350 1610 = some (.iadd, 1, 0, 0, 0) from rfl) ?_
  refine z_sld X S hL (show cdA 350 1611 = some (.iaload, 1, 0, 0, 0) from rfl) (show 0 ≤ (i + 4) ∧ (i + 4) < (L : Int) by omega) ?_
  have sr10 : rng (sc xs (i + 4)) := sc_rng
  have N11 : ∀ e12 : Int, ((((sc xs (i + 4)) = 0) ∧ e12 = 0) ∨ (((sc xs (i + 4)) ≠ 0) ∧ e12 = 1)) → WS k 1620 [(0, .ref q1), (1, .ref (A 0)), (2, .ref (A 179)), (3, .ref (A 517)), (4, .int (Int32.ofInt i))] [.int (Int32.ofInt e12), .int (Int32.ofInt (sc xs (i + 3))), .int (Int32.ofInt (sc xs (i + 2))), .int (Int32.ofInt (sc xs (i + 1))), .ref (A 0)] (Wd A dT s) ce sl := by
    intro e12 he12
    have re12 : 0 ≤ e12 ∧ e12 ≤ 1 := by first | (clear he12; omega) | omega
    refine z_aload_n X (x := A 517) (show cdA 350 1620 = some (.aload_n 3, 1, 0, 0, 0) from rfl) (List.Mem.tail _ (List.Mem.tail _ (List.Mem.tail _ (List.Mem.head _)))) ?_
    refine z_callL X (rm := rmN 345) (As := [.ref (A 0), .int (Int32.ofInt (sc xs (i + 1))), .int (Int32.ofInt (sc xs (i + 2))), .int (Int32.ofInt (sc xs (i + 3))), .int (Int32.ofInt e12), .ref (A 517)]) (st := []) (show cdA 350 1621 = some (.invokestatic 264, 3, 345, 6, 0) from rfl) (by decide) rfl (by rw [E.1, E.2.1, E.2.2.1]; exact lw_did G I (by first | (clear he12; omega) | omega) (by first | (clear he12; omega) | omega) (by first | (clear he12; omega) | omega) (by first | (clear he12; omega) | omega)) ⟨by rw [E.2.2.2]; exact (show 11 + 1 ≤ 2048 by first | (clear he12; omega) | omega), by rw [E.2.2.2]; exact (show 8 + (7 + 11) + 229 ≤ 84000 by first | (clear he12; omega) | omega), by rw [E.2.2.2]; exact (show ce + 3 ≤ 601024 by first | (clear he12; omega) | omega), by rw [E.2.2.2]; exact (show sl + 18 ≤ 7293034 by first | (clear he12; omega) | omega)⟩ (Nat.le_of_ble_eq_true rfl) (fun vv A s13 hA2 hq => ?_) (fun ee A s13 hA2 hq => ?_)
    rotate_left
    · obtain ⟨Is13, Fs13, e14, hv, hrs13, hps13⟩ := hq; cases hv
    obtain ⟨Is13, Fs13, e14, hv, hrs13, hps13⟩ := hq
    cases hv
    rw [← hA2 0 (by decide)]
    rw [← hA2 179 (by decide)]
    rw [← hA2 517 (by decide)]
    have Gs13 := fm_ts F Fs13 (by decide) (by decide)
    have JRLx_s13 : RLx s13 := RLx_fm Fs13 (by decide) jR
    have JFEQ_s13 : FEQ s13 := FEQ_fm Fs13 (by decide) jFEQ
    have ws13_0 : iI s13 0 = iI s 0 := fm_i Fs13 (by decide)
    have ws13_74 : iI s13 74 = iI s 74 := fm_i Fs13 (by decide)
    have ws13_9 : iI s13 9 = iI s 9 := fm_i Fs13 (by decide)
    have ws13_90 : iI s13 90 = iI s 90 := fm_i Fs13 (by decide)
    have ws13_12 : iI s13 12 = iI s 12 := fm_i Fs13 (by decide)
    have ws13_89 : iI s13 89 = iI s 89 := fm_i Fs13 (by decide)
    show WS k 1624 [(0, .ref q1), (1, .ref (A 0)), (2, .ref (A 179)), (3, .ref (A 517)), (4, .int (Int32.ofInt i))] [.int (Int32.ofInt e14)] (Wd A dT s13) (ce + 3) (sl + 18)
    refine z_store X (lv' := [(5, .int (Int32.ofInt e14)), (0, .ref q1), (1, .ref (A 0)), (2, .ref (A 179)), (3, .ref (A 517)), (4, .int (Int32.ofInt i))]) (show cdA 350 1624 = some (.istore 5, 2, 0, 0, 0) from rfl) (by decide) (fun _ h => h) ?_
    refine z_aload_n X (x := A 179) (show cdA 350 1626 = some (.aload_n 2, 1, 0, 0, 0) from rfl) (List.Mem.tail _ (List.Mem.tail _ (List.Mem.tail _ (List.Mem.head _)))) ?_
    refine z_aload_n X (x := q1) (show cdA 350 1627 = some (.aload_n 0, 1, 0, 0, 0) from rfl) (List.Mem.tail _ (List.Mem.head _)) ?_
    refine z_load X (x := i) (show cdA 350 1628 = some (.iload 4, 2, 0, 0, 0) from rfl) (List.Mem.tail _ (List.Mem.tail _ (List.Mem.tail _ (List.Mem.tail _ (List.Mem.tail _ (List.Mem.head _)))))) ?_
    refine z_const X (show cdA 350 1630 = some (.iconst 1, 1, 0, 0, 0) from rfl) ?_
    refine z_add X (show cdA 350 1631 = some (.iadd, 1, 0, 0, 0) from rfl) ?_
    refine z_sld X S hL (show cdA 350 1632 = some (.iaload, 1, 0, 0, 0) from rfl) (show 0 ≤ (i + 1) ∧ (i + 1) < (L : Int) by first | (clear he12; omega) | omega) ?_
    have sr15 : rng (sc xs (i + 1)) := sc_rng
    refine z_aload_n X (x := q1) (show cdA 350 1633 = some (.aload_n 0, 1, 0, 0, 0) from rfl) (List.Mem.tail _ (List.Mem.head _)) ?_
    refine z_load X (x := i) (show cdA 350 1634 = some (.iload 4, 2, 0, 0, 0) from rfl) (List.Mem.tail _ (List.Mem.tail _ (List.Mem.tail _ (List.Mem.tail _ (List.Mem.tail _ (List.Mem.head _)))))) ?_
    refine z_const X (show cdA 350 1636 = some (.iconst 2, 1, 0, 0, 0) from rfl) ?_
    refine z_add X (show cdA 350 1637 = some (.iadd, 1, 0, 0, 0) from rfl) ?_
    refine z_sld X S hL (show cdA 350 1638 = some (.iaload, 1, 0, 0, 0) from rfl) (show 0 ≤ (i + 2) ∧ (i + 2) < (L : Int) by first | (clear he12; omega) | omega) ?_
    have sr16 : rng (sc xs (i + 2)) := sc_rng
    refine z_aload_n X (x := q1) (show cdA 350 1639 = some (.aload_n 0, 1, 0, 0, 0) from rfl) (List.Mem.tail _ (List.Mem.head _)) ?_
    refine z_load X (x := i) (show cdA 350 1640 = some (.iload 4, 2, 0, 0, 0) from rfl) (List.Mem.tail _ (List.Mem.tail _ (List.Mem.tail _ (List.Mem.tail _ (List.Mem.tail _ (List.Mem.head _)))))) ?_
    refine z_const X (show cdA 350 1642 = some (.iconst 3, 1, 0, 0, 0) from rfl) ?_
    refine z_add X (show cdA 350 1643 = some (.iadd, 1, 0, 0, 0) from rfl) ?_
    refine z_sld X S hL (show cdA 350 1644 = some (.iaload, 1, 0, 0, 0) from rfl) (show 0 ≤ (i + 3) ∧ (i + 3) < (L : Int) by first | (clear he12; omega) | omega) ?_
    have sr17 : rng (sc xs (i + 3)) := sc_rng
    refine z_aload_n X (x := q1) (show cdA 350 1645 = some (.aload_n 0, 1, 0, 0, 0) from rfl) (List.Mem.tail _ (List.Mem.head _)) ?_
    refine z_load X (x := i) (show cdA 350 1646 = some (.iload 4, 2, 0, 0, 0) from rfl) (List.Mem.tail _ (List.Mem.tail _ (List.Mem.tail _ (List.Mem.tail _ (List.Mem.tail _ (List.Mem.head _)))))) ?_
    refine z_const X (show cdA 350 1648 = some (.iconst 4, 1, 0, 0, 0) from rfl) ?_
    refine z_add X (show cdA 350 1649 = some (.iadd, 1, 0, 0, 0) from rfl) ?_
    refine z_sld X S hL (show cdA 350 1650 = some (.iaload, 1, 0, 0, 0) from rfl) (show 0 ≤ (i + 4) ∧ (i + 4) < (L : Int) by first | (clear he12; omega) | omega) ?_
    have sr18 : rng (sc xs (i + 4)) := sc_rng
    have N19 : ∀ e20 : Int, ((((sc xs (i + 4)) = 0) ∧ e20 = 0) ∨ (((sc xs (i + 4)) ≠ 0) ∧ e20 = 1)) → WS k 1659 [(5, .int (Int32.ofInt e14)), (0, .ref q1), (1, .ref (A 0)), (2, .ref (A 179)), (3, .ref (A 517)), (4, .int (Int32.ofInt i))] [.int (Int32.ofInt e20), .int (Int32.ofInt (sc xs (i + 3))), .int (Int32.ofInt (sc xs (i + 2))), .int (Int32.ofInt (sc xs (i + 1))), .ref (A 179)] (Wd A dT s13) (ce + 3) (sl + 18) := by
      intro e20 he20
      have re20 : 0 ≤ e20 ∧ e20 ≤ 1 := by first | (clear he20 he12; omega) | (clear he12; omega) | omega
      refine z_callV X 179 (rm := rmN 287) (As := [.int (Int32.ofInt (sc xs (i + 1))), .int (Int32.ofInt (sc xs (i + 2))), .int (Int32.ofInt (sc xs (i + 3))), .int (Int32.ofInt e20)]) (st := []) (show cdA 350 1659 = some (.invokevirtual 267, 3, 287, 0, 0) from rfl) rfl (by decide) rfl (by rw [E.1, E.2.1, E.2.2.1]; exact k_did G Is13 JRLx_s13 (by first | exact ⟨sr15.1, sr15.2⟩ | omega) (by first | exact ⟨sr16.1, sr16.2⟩ | omega) (by first | exact ⟨sr17.1, sr17.2⟩ | omega) (by first | (clear he20 he12; omega) | (clear he12; omega) | omega)) ⟨by rw [E.2.2.2]; exact (show 10 + 1 ≤ 2048 by first | (clear he20 he12; omega) | (clear he12; omega) | omega), by rw [E.2.2.2]; exact (show 8 + (6 + 11) + 189 ≤ 84000 by first | (clear he20 he12; omega) | (clear he12; omega) | omega), by rw [E.2.2.2]; exact (show (ce + 3) + 0 ≤ 601024 by first | (clear he20 he12; omega) | (clear he12; omega) | omega), by rw [E.2.2.2]; exact (show (sl + 18) + 0 ≤ 7293034 by first | (clear he20 he12; omega) | (clear he12; omega) | omega)⟩ (Nat.le_of_ble_eq_true rfl) (fun vv s21 hq => ?_) (fun ee s21 hq => ?_)
      rotate_left
      · obtain ⟨Is21, Fs21, JRLx_s21, e22, hv, hrs21, hps21⟩ := hq; cases hv
      obtain ⟨Is21, Fs21, JRLx_s21, e22, hv, hrs21, hps21⟩ := hq
      cases hv
      have Gs21 := fm_ts Gs13 Fs21 (by decide) (by decide +kernel)
      have JRLx_s21 : RLx s21 := RLx_fm Fs21 (by decide) JRLx_s13
      have JFEQ_s21 : FEQ s21 := FEQ_fm Fs21 (by decide) JFEQ_s13
      have ws21_0 : iI s21 0 = iI s13 0 := fm_i Fs21 (by decide)
      have ws21_74 : iI s21 74 = iI s13 74 := fm_i Fs21 (by decide)
      have ws21_9 : iI s21 9 = iI s13 9 := fm_i Fs21 (by decide)
      have ws21_90 : iI s21 90 = iI s13 90 := fm_i Fs21 (by decide)
      have ws21_12 : iI s21 12 = iI s13 12 := fm_i Fs21 (by decide)
      have ws21_89 : iI s21 89 = iI s13 89 := fm_i Fs21 (by decide)
      have wos21 : iO s21 = iO s13 := fm_o Fs21 (by decide)
      show WS k 1662 [(5, .int (Int32.ofInt e14)), (0, .ref q1), (1, .ref (A 0)), (2, .ref (A 179)), (3, .ref (A 517)), (4, .int (Int32.ofInt i))] [.int (Int32.ofInt e22)] (Wd A dT s21) (ce + 3) (sl + 18)
      refine z_store X (lv' := [(6, .int (Int32.ofInt e22)), (5, .int (Int32.ofInt e14)), (0, .ref q1), (1, .ref (A 0)), (2, .ref (A 179)), (3, .ref (A 517)), (4, .int (Int32.ofInt i))]) (show cdA 350 1662 = some (.istore 6, 2, 0, 0, 0) from rfl) (by decide) (fun _ h => h) ?_
      refine z_goto X (t := 1894) (show cdA 350 1664 = some (.goto 230, 3, 0, 0, 0) from rfl) (by decide) ?_
      refine w_widen (ce' := ce + 29) (sl' := sl + 222) (by first | (clear he20 he12; omega) | (clear he12; omega) | omega) (by first | (clear he20 he12; omega) | (clear he12; omega) | omega) ?_
      exact WS_lv (lv := [(0, .ref q1), (1, .ref (A 0)), (2, .ref (A 179)), (3, .ref (A 517)), (4, .int (Int32.ofInt i))]) (List.forall_mem_cons.mpr ⟨(List.Mem.tail _ (List.Mem.tail _ (List.Mem.head _))), (List.forall_mem_cons.mpr ⟨(List.Mem.tail _ (List.Mem.tail _ (List.Mem.tail _ (List.Mem.head _)))), (List.forall_mem_cons.mpr ⟨(List.Mem.tail _ (List.Mem.tail _ (List.Mem.tail _ (List.Mem.tail _ (List.Mem.head _))))), (List.forall_mem_cons.mpr ⟨(List.Mem.tail _ (List.Mem.tail _ (List.Mem.tail _ (List.Mem.tail _ (List.Mem.tail _ (List.Mem.head _)))))), (List.forall_mem_cons.mpr ⟨(List.Mem.tail _ (List.Mem.tail _ (List.Mem.tail _ (List.Mem.tail _ (List.Mem.tail _ (List.Mem.tail _ (List.Mem.head _))))))), (fun q h => absurd h List.not_mem_nil)⟩)⟩)⟩)⟩)⟩) (hk A _ Is21 JRLx_s21 JFEQ_s21 (by first | (clear he20 he12; omega) | (clear he12; omega) | omega) (by first | (clear he20 he12; omega) | (clear he12; omega) | omega) (by first | (clear he20 he12; omega) | (clear he12; omega) | omega) (by first | (clear he20 he12; omega) | (clear he12; omega) | omega))
    refine z_if_eq X (t := 1658) (show cdA 350 1651 = some (.ifCond .eq 7, 3, 0, 0, 1) from rfl) (by decide) ⟨by first | exact sr18.1 | omega, by first | exact sr18.2 | omega⟩ (fun g23 => ?_) (fun g23 => ?_)
    ·
      refine z_const X (show cdA 350 1658 = some (.iconst 0, 1, 0, 0, 0) from rfl) ?_
      exact N19 _ (Or.inl ⟨g23, rfl⟩)
    ·
      refine z_const X (show cdA 350 1654 = some (.iconst 1, 1, 0, 0, 0) from rfl) ?_
      refine z_goto X (t := 1659) (show cdA 350 1655 = some (.goto 4, 3, 0, 0, 0) from rfl) (by decide) ?_
      exact N19 _ (Or.inr (⟨g23, rfl⟩))
  refine z_if_eq X (t := 1619) (show cdA 350 1612 = some (.ifCond .eq 7, 3, 0, 0, 1) from rfl) (by decide) ⟨by first | exact sr10.1 | omega, by first | exact sr10.2 | omega⟩ (fun g24 => ?_) (fun g24 => ?_)
  ·
    refine z_const X (show cdA 350 1619 = some (.iconst 0, 1, 0, 0, 0) from rfl) ?_
    exact N11 _ (Or.inl ⟨g24, rfl⟩)
  ·
    refine z_const X (show cdA 350 1615 = some (.iconst 1, 1, 0, 0, 0) from rfl) ?_
    refine z_goto X (t := 1620) (show cdA 350 1616 = some (.goto 4, 3, 0, 0, 0) from rfl) (by decide) ?_
    exact N11 _ (Or.inr (⟨g24, rfl⟩))
theorem lc_37 (G : GX l s0 D tys a0 dT) (GR : RS0 s0) (SF : SF0 s0) (GT : TXs0 s0) (GW : TXw0 s0) {k : kx_T} (X : AX k 350 dT) (E : kL k = l ∧ kS0 k = s0 ∧ kD k = D ∧ kR k = room_1) {q1 L : Nat} {xs : Nat → Int32} (S : SX k q1 L xs) (hL : L ≤ 3072) (I : Bd s) (jR : RLx s) (jFEQ : FEQ s) (p1 : iI s 89 = 1) (p2 : iI s 12 ≤ 8) (p3 : iI s 0 = iI s 74) (p4 : iI s 9 = iI s 90) {i : Int} (hi : 0 ≤ i ∧ i + 6 ≤ (L : Int)) {ce sl : Nat} (hce : ce + 29 ≤ 601024) (hsl : sl + 222 ≤ 7293034) (hk : ∀ (A : Nat → Nat) (t : PS), Bd t → RLx t → FEQ t → iI t 89 = 1 → iI t 12 ≤ 8 → iI t 0 = iI t 74 → iI t 9 = iI t 90 → WS k 1894 [(0, .ref q1), (1, .ref (A 0)), (2, .ref (A 179)), (3, .ref (A 517)), (4, .int (Int32.ofInt i))] [] (Wd A dT t) (ce + 29) (sl + 222)) : WS k 1667 [(0, .ref q1), (1, .ref (A 0)), (2, .ref (A 179)), (3, .ref (A 517)), (4, .int (Int32.ofInt i))] [] (Wd A dT s) ce sl := by
  have F : Fm [71, 72, 73] [156, 155, 1460] s s := fm_rf _ _ s
  have b1 : (0 : Int) ≤ iI s 0 ∧ iI s 0 ≤ 200 := I.1 0
  have b2 : (0 : Int) ≤ iI s 74 ∧ iI s 74 ≤ 200 := I.1 74
  have b3 : (0 : Int) ≤ iI s 9 ∧ iI s 9 ≤ 12 := I.1 9
  have b4 : (0 : Int) ≤ iI s 90 ∧ iI s 90 ≤ 12 := I.1 90
  have b5 : (0 : Int) ≤ iI s 12 ∧ iI s 12 ≤ 9 := I.1 12
  have b6 : (1 : Int) ≤ iI s 89 ∧ iI s 89 ≤ 8 := I.1 89
  refine z_aload_n X (x := A 0) (show cdA 350 1667 = some (.aload_n 1, 1, 0, 0, 0) from rfl) (List.Mem.tail _ (List.Mem.head _)) ?_
  refine z_aload_n X (x := q1) (show cdA 350 1668 = some (.aload_n 0, 1, 0, 0, 0) from rfl) (List.Mem.head _) ?_
  refine z_load X (x := i) (show cdA 350 1669 = some (.iload 4, 2, 0, 0, 0) from rfl) (List.Mem.tail _ (List.Mem.tail _ (List.Mem.tail _ (List.Mem.tail _ (List.Mem.head _))))) ?_
  refine z_const X (show cdA 350 1671 = some (.iconst 1, 1, 0, 0, 0) from rfl) ?_
  refine z_add X (show cdA 350 1672 = some (.iadd, 1, 0, 0, 0) from rfl) ?_
  refine z_sld X S hL (show cdA 350 1673 = some (.iaload, 1, 0, 0, 0) from rfl) (show 0 ≤ (i + 1) ∧ (i + 1) < (L : Int) by omega) ?_
  have sr7 : rng (sc xs (i + 1)) := sc_rng
  refine z_aload_n X (x := A 517) (show cdA 350 1674 = some (.aload_n 3, 1, 0, 0, 0) from rfl) (List.Mem.tail _ (List.Mem.tail _ (List.Mem.tail _ (List.Mem.head _)))) ?_
  refine z_callL X (rm := rmN 346) (As := [.ref (A 0), .int (Int32.ofInt (sc xs (i + 1))), .ref (A 517)]) (st := []) (show cdA 350 1675 = some (.invokestatic 268, 3, 346, 6, 0) from rfl) (by decide) rfl (by rw [E.1, E.2.1, E.2.2.1]; exact lw_fit G I (by omega)) ⟨by rw [E.2.2.2]; exact (show 10 + 1 ≤ 2048 by omega), by rw [E.2.2.2]; exact (show 8 + (4 + 11) + 190 ≤ 84000 by omega), by rw [E.2.2.2]; exact (show ce + 1 ≤ 601024 by omega), by rw [E.2.2.2]; exact (show sl + 6 ≤ 7293034 by omega)⟩ (Nat.le_of_ble_eq_true rfl) (fun vv A s8 hA2 hq => ?_) (fun ee A s8 hA2 hq => ?_)
  rotate_left
  · obtain ⟨Is8, Fs8, e9, hv, hrs8, hps8⟩ := hq; cases hv
  obtain ⟨Is8, Fs8, e9, hv, hrs8, hps8⟩ := hq
  cases hv
  rw [← hA2 0 (by decide)]
  rw [← hA2 179 (by decide)]
  rw [← hA2 517 (by decide)]
  have Gs8 := fm_ts F Fs8 (by decide) (by decide)
  have JRLx_s8 : RLx s8 := RLx_fm Fs8 (by decide) jR
  have JFEQ_s8 : FEQ s8 := FEQ_fm Fs8 (by decide) jFEQ
  have ws8_0 : iI s8 0 = iI s 0 := fm_i Fs8 (by decide)
  have ws8_74 : iI s8 74 = iI s 74 := fm_i Fs8 (by decide)
  have ws8_9 : iI s8 9 = iI s 9 := fm_i Fs8 (by decide)
  have ws8_90 : iI s8 90 = iI s 90 := fm_i Fs8 (by decide)
  have ws8_12 : iI s8 12 = iI s 12 := fm_i Fs8 (by decide)
  have ws8_89 : iI s8 89 = iI s 89 := fm_i Fs8 (by decide)
  show WS k 1678 [(0, .ref q1), (1, .ref (A 0)), (2, .ref (A 179)), (3, .ref (A 517)), (4, .int (Int32.ofInt i))] [.int (Int32.ofInt e9)] (Wd A dT s8) (ce + 1) (sl + 6)
  refine z_store X (lv' := [(5, .int (Int32.ofInt e9)), (0, .ref q1), (1, .ref (A 0)), (2, .ref (A 179)), (3, .ref (A 517)), (4, .int (Int32.ofInt i))]) (show cdA 350 1678 = some (.istore 5, 2, 0, 0, 0) from rfl) (by decide) (fun _ h => h) ?_
  refine z_aload_n X (x := A 179) (show cdA 350 1680 = some (.aload_n 2, 1, 0, 0, 0) from rfl) (List.Mem.tail _ (List.Mem.tail _ (List.Mem.tail _ (List.Mem.head _)))) ?_
  refine z_aload_n X (x := q1) (show cdA 350 1681 = some (.aload_n 0, 1, 0, 0, 0) from rfl) (List.Mem.tail _ (List.Mem.head _)) ?_
  refine z_load X (x := i) (show cdA 350 1682 = some (.iload 4, 2, 0, 0, 0) from rfl) (List.Mem.tail _ (List.Mem.tail _ (List.Mem.tail _ (List.Mem.tail _ (List.Mem.tail _ (List.Mem.head _)))))) ?_
  refine z_const X (show cdA 350 1684 = some (.iconst 1, 1, 0, 0, 0) from rfl) ?_
  refine z_add X (show cdA 350 1685 = some (.iadd, 1, 0, 0, 0) from rfl) ?_
  refine z_sld X S hL (show cdA 350 1686 = some (.iaload, 1, 0, 0, 0) from rfl) (show 0 ≤ (i + 1) ∧ (i + 1) < (L : Int) by omega) ?_
  have sr10 : rng (sc xs (i + 1)) := sc_rng
  refine z_callV X 179 (rm := rmN 289) (As := [.int (Int32.ofInt (sc xs (i + 1)))]) (st := []) (show cdA 350 1687 = some (.invokevirtual 270, 3, 289, 0, 0) from rfl) rfl (by decide) rfl (by rw [E.1, E.2.1, E.2.2.1]; exact k_fit G Is8 (by first | exact ⟨sr10.1, sr10.2⟩ | omega)) ⟨by rw [E.2.2.2]; exact (show 8 + 1 ≤ 2048 by omega), by rw [E.2.2.2]; exact (show 8 + (7 + 11) + 145 ≤ 84000 by omega), by rw [E.2.2.2]; exact (show (ce + 1) + 0 ≤ 601024 by omega), by rw [E.2.2.2]; exact (show (sl + 6) + 0 ≤ 7293034 by omega)⟩ (Nat.le_of_ble_eq_true rfl) (fun vv s11 hq => ?_) (fun ee s11 hq => ?_)
  rotate_left
  · obtain ⟨Is11, Fs11, e12, hv, hrs11, hps11⟩ := hq; cases hv
  obtain ⟨Is11, Fs11, e12, hv, hrs11, hps11⟩ := hq
  cases hv
  have Gs11 := fm_ts Gs8 Fs11 (by decide) (by decide)
  have JRLx_s11 : RLx s11 := RLx_fm Fs11 (by decide) JRLx_s8
  have JFEQ_s11 : FEQ s11 := FEQ_fm Fs11 (by decide) JFEQ_s8
  have ws11_0 : iI s11 0 = iI s8 0 := fm_i Fs11 (by decide)
  have ws11_74 : iI s11 74 = iI s8 74 := fm_i Fs11 (by decide)
  have ws11_9 : iI s11 9 = iI s8 9 := fm_i Fs11 (by decide)
  have ws11_90 : iI s11 90 = iI s8 90 := fm_i Fs11 (by decide)
  have ws11_12 : iI s11 12 = iI s8 12 := fm_i Fs11 (by decide)
  have ws11_89 : iI s11 89 = iI s8 89 := fm_i Fs11 (by decide)
  have wos11 : iO s11 = iO s8 := fm_o Fs11 (by decide)
  show WS k 1690 [(5, .int (Int32.ofInt e9)), (0, .ref q1), (1, .ref (A 0)), (2, .ref (A 179)), (3, .ref (A 517)), (4, .int (Int32.ofInt i))] [.int (Int32.ofInt e12)] (Wd A dT s11) (ce + 1) (sl + 6)
  refine z_store X (lv' := [(6, .int (Int32.ofInt e12)), (5, .int (Int32.ofInt e9)), (0, .ref q1), (1, .ref (A 0)), (2, .ref (A 179)), (3, .ref (A 517)), (4, .int (Int32.ofInt i))]) (show cdA 350 1690 = some (.istore 6, 2, 0, 0, 0) from rfl) (by decide) (fun _ h => h) ?_
  refine z_goto X (t := 1894) (show cdA 350 1692 = some (.goto 202, 3, 0, 0, 0) from rfl) (by decide) ?_
  refine w_widen (ce' := ce + 29) (sl' := sl + 222) (by omega) (by omega) ?_
  exact WS_lv (lv := [(0, .ref q1), (1, .ref (A 0)), (2, .ref (A 179)), (3, .ref (A 517)), (4, .int (Int32.ofInt i))]) (List.forall_mem_cons.mpr ⟨(List.Mem.tail _ (List.Mem.tail _ (List.Mem.head _))), (List.forall_mem_cons.mpr ⟨(List.Mem.tail _ (List.Mem.tail _ (List.Mem.tail _ (List.Mem.head _)))), (List.forall_mem_cons.mpr ⟨(List.Mem.tail _ (List.Mem.tail _ (List.Mem.tail _ (List.Mem.tail _ (List.Mem.head _))))), (List.forall_mem_cons.mpr ⟨(List.Mem.tail _ (List.Mem.tail _ (List.Mem.tail _ (List.Mem.tail _ (List.Mem.tail _ (List.Mem.head _)))))), (List.forall_mem_cons.mpr ⟨(List.Mem.tail _ (List.Mem.tail _ (List.Mem.tail _ (List.Mem.tail _ (List.Mem.tail _ (List.Mem.tail _ (List.Mem.head _))))))), (fun q h => absurd h List.not_mem_nil)⟩)⟩)⟩)⟩)⟩) (hk A _ Is11 JRLx_s11 JFEQ_s11 (by omega) (by omega) (by omega) (by omega))
theorem lc_38 (G : GX l s0 D tys a0 dT) (GR : RS0 s0) (SF : SF0 s0) (GT : TXs0 s0) (GW : TXw0 s0) {k : kx_T} (X : AX k 350 dT) (E : kL k = l ∧ kS0 k = s0 ∧ kD k = D ∧ kR k = room_1) {q1 L : Nat} {xs : Nat → Int32} (S : SX k q1 L xs) (hL : L ≤ 3072) (I : Bd s) (jR : RLx s) (jFEQ : FEQ s) (p1 : iI s 89 = 1) (p2 : iI s 12 ≤ 8) (p3 : iI s 0 = iI s 74) (p4 : iI s 9 = iI s 90) {i : Int} (hi : 0 ≤ i ∧ i + 6 ≤ (L : Int)) {ce sl : Nat} (hce : ce + 29 ≤ 601024) (hsl : sl + 222 ≤ 7293034) (hk : ∀ (A : Nat → Nat) (t : PS), Bd t → RLx t → FEQ t → iI t 89 = 1 → iI t 12 ≤ 8 → iI t 0 = iI t 74 → iI t 9 = iI t 90 → WS k 1894 [(0, .ref q1), (1, .ref (A 0)), (2, .ref (A 179)), (3, .ref (A 517)), (4, .int (Int32.ofInt i))] [] (Wd A dT t) (ce + 29) (sl + 222)) : WS k 1695 [(0, .ref q1), (1, .ref (A 0)), (2, .ref (A 179)), (3, .ref (A 517)), (4, .int (Int32.ofInt i))] [] (Wd A dT s) ce sl := by
  have F : Fm [22, 23, 73, 77, 75, 78, 79, 80, 81] [33, 26, 27, 28, 29, 30, 31, 32, 20, 34, 1460, 202, 204, 205, 206, 207, 208, 209, 210, 211, 212, 213, 214, 215, 216, 217, 218, 219, 220, 221, 222, 223, 224, 225, 226, 227, 203, 161, 230] s s := fm_rf _ _ s
  have b1 : (0 : Int) ≤ iI s 0 ∧ iI s 0 ≤ 200 := I.1 0
  have b2 : (0 : Int) ≤ iI s 74 ∧ iI s 74 ≤ 200 := I.1 74
  have b3 : (0 : Int) ≤ iI s 9 ∧ iI s 9 ≤ 12 := I.1 9
  have b4 : (0 : Int) ≤ iI s 90 ∧ iI s 90 ≤ 12 := I.1 90
  have b5 : (0 : Int) ≤ iI s 12 ∧ iI s 12 ≤ 9 := I.1 12
  have b6 : (1 : Int) ≤ iI s 89 ∧ iI s 89 ≤ 8 := I.1 89
  refine z_aload_n X (x := A 0) (show cdA 350 1695 = some (.aload_n 1, 1, 0, 0, 0) from rfl) (List.Mem.tail _ (List.Mem.head _)) ?_
  refine z_aload_n X (x := q1) (show cdA 350 1696 = some (.aload_n 0, 1, 0, 0, 0) from rfl) (List.Mem.head _) ?_
  refine z_load X (x := i) (show cdA 350 1697 = some (.iload 4, 2, 0, 0, 0) from rfl) (List.Mem.tail _ (List.Mem.tail _ (List.Mem.tail _ (List.Mem.tail _ (List.Mem.head _))))) ?_
  refine z_const X (show cdA 350 1699 = some (.iconst 1, 1, 0, 0, 0) from rfl) ?_
  refine z_add X (show cdA 350 1700 = some (.iadd, 1, 0, 0, 0) from rfl) ?_
  refine z_sld X S hL (show cdA 350 1701 = some (.iaload, 1, 0, 0, 0) from rfl) (show 0 ≤ (i + 1) ∧ (i + 1) < (L : Int) by omega) ?_
  have sr7 : rng (sc xs (i + 1)) := sc_rng
  refine z_aload_n X (x := q1) (show cdA 350 1702 = some (.aload_n 0, 1, 0, 0, 0) from rfl) (List.Mem.head _) ?_
  refine z_load X (x := i) (show cdA 350 1703 = some (.iload 4, 2, 0, 0, 0) from rfl) (List.Mem.tail _ (List.Mem.tail _ (List.Mem.tail _ (List.Mem.tail _ (List.Mem.head _))))) ?_
  refine z_const X (show cdA 350 1705 = some (.iconst 2, 1, 0, 0, 0) from rfl) ?_
  refine z_add X (show cdA 350 1706 = some (.iadd, 1, 0, 0, 0) from rfl) ?_
  refine z_sld X S hL (show cdA 350 1707 = some (.iaload, 1, 0, 0, 0) from rfl) (show 0 ≤ (i + 2) ∧ (i + 2) < (L : Int) by omega) ?_
  have sr8 : rng (sc xs (i + 2)) := sc_rng
  refine z_aload_n X (x := q1) (show cdA 350 1708 = some (.aload_n 0, 1, 0, 0, 0) from rfl) (List.Mem.head _) ?_
  refine z_load X (x := i) (show cdA 350 1709 = some (.iload 4, 2, 0, 0, 0) from rfl) (List.Mem.tail _ (List.Mem.tail _ (List.Mem.tail _ (List.Mem.tail _ (List.Mem.head _))))) ?_
  refine z_const X (show cdA 350 1711 = some (.iconst 3, 1, 0, 0, 0) from rfl) ?_
  refine z_add X (show cdA 350 1712 = some (.iadd, 1, 0, 0, 0) from rfl) ?_
  refine z_sld X S hL (show cdA 350 1713 = some (.iaload, 1, 0, 0, 0) from rfl) (show 0 ≤ (i + 3) ∧ (i + 3) < (L : Int) by omega) ?_
  have sr9 : rng (sc xs (i + 3)) := sc_rng
  refine z_aload_n X (x := q1) (show cdA 350 1714 = some (.aload_n 0, 1, 0, 0, 0) from rfl) (List.Mem.head _) ?_
  refine z_load X (x := i) (show cdA 350 1715 = some (.iload 4, 2, 0, 0, 0) from rfl) (List.Mem.tail _ (List.Mem.tail _ (List.Mem.tail _ (List.Mem.tail _ (List.Mem.head _))))) ?_
  refine z_const X (show cdA 350 1717 = some (.iconst 4, 1, 0, 0, 0) from rfl) ?_
  refine z_add X (show cdA 350 1718 = some (.iadd, 1, 0, 0, 0) from rfl) ?_
  refine z_sld X S hL (show cdA 350 1719 = some (.iaload, 1, 0, 0, 0) from rfl) (show 0 ≤ (i + 4) ∧ (i + 4) < (L : Int) by omega) ?_
  have sr10 : rng (sc xs (i + 4)) := sc_rng
  have N11 : ∀ e12 : Int, ((((sc xs (i + 4)) = 0) ∧ e12 = 0) ∨ (((sc xs (i + 4)) ≠ 0) ∧ e12 = 1)) → WS k 1728 [(0, .ref q1), (1, .ref (A 0)), (2, .ref (A 179)), (3, .ref (A 517)), (4, .int (Int32.ofInt i))] [.int (Int32.ofInt e12), .int (Int32.ofInt (sc xs (i + 3))), .int (Int32.ofInt (sc xs (i + 2))), .int (Int32.ofInt (sc xs (i + 1))), .ref (A 0)] (Wd A dT s) ce sl := by
    intro e12 he12
    have re12 : 0 ≤ e12 ∧ e12 ≤ 1 := by first | (clear he12; omega) | omega
    refine z_aload_n X (x := A 517) (show cdA 350 1728 = some (.aload_n 3, 1, 0, 0, 0) from rfl) (List.Mem.tail _ (List.Mem.tail _ (List.Mem.tail _ (List.Mem.head _)))) ?_
    refine z_callL X (rm := rmN 347) (As := [.ref (A 0), .int (Int32.ofInt (sc xs (i + 1))), .int (Int32.ofInt (sc xs (i + 2))), .int (Int32.ofInt (sc xs (i + 3))), .int (Int32.ofInt e12), .ref (A 517)]) (st := []) (show cdA 350 1729 = some (.invokestatic 271, 3, 347, 6, 0) from rfl) (by decide) rfl (by rw [E.1, E.2.1, E.2.2.1]; exact lw_lead G I (by first | (clear he12; omega) | omega) (by first | (clear he12; omega) | omega) (by first | (clear he12; omega) | omega) (by first | (clear he12; omega) | omega)) ⟨by rw [E.2.2.2]; exact (show 11 + 1 ≤ 2048 by first | (clear he12; omega) | omega), by rw [E.2.2.2]; exact (show 8 + (7 + 11) + 230 ≤ 84000 by first | (clear he12; omega) | omega), by rw [E.2.2.2]; exact (show ce + 2 ≤ 601024 by first | (clear he12; omega) | omega), by rw [E.2.2.2]; exact (show sl + 12 ≤ 7293034 by first | (clear he12; omega) | omega)⟩ (Nat.le_of_ble_eq_true rfl) (fun vv A s13 hA2 hq => ?_) (fun ee A s13 hA2 hq => ?_)
    rotate_left
    · obtain ⟨Is13, Fs13, e14, hv, hrs13, hps13⟩ := hq; cases hv
    obtain ⟨Is13, Fs13, e14, hv, hrs13, hps13⟩ := hq
    cases hv
    rw [← hA2 0 (by decide)]
    rw [← hA2 179 (by decide)]
    rw [← hA2 517 (by decide)]
    have Gs13 := fm_ts F Fs13 (by decide) (by decide)
    have JRLx_s13 : RLx s13 := RLx_fm Fs13 (by decide) jR
    have JFEQ_s13 : FEQ s13 := FEQ_fm Fs13 (by decide) jFEQ
    have ws13_0 : iI s13 0 = iI s 0 := fm_i Fs13 (by decide)
    have ws13_74 : iI s13 74 = iI s 74 := fm_i Fs13 (by decide)
    have ws13_9 : iI s13 9 = iI s 9 := fm_i Fs13 (by decide)
    have ws13_90 : iI s13 90 = iI s 90 := fm_i Fs13 (by decide)
    have ws13_12 : iI s13 12 = iI s 12 := fm_i Fs13 (by decide)
    have ws13_89 : iI s13 89 = iI s 89 := fm_i Fs13 (by decide)
    show WS k 1732 [(0, .ref q1), (1, .ref (A 0)), (2, .ref (A 179)), (3, .ref (A 517)), (4, .int (Int32.ofInt i))] [.int (Int32.ofInt e14)] (Wd A dT s13) (ce + 2) (sl + 12)
    refine z_store X (lv' := [(5, .int (Int32.ofInt e14)), (0, .ref q1), (1, .ref (A 0)), (2, .ref (A 179)), (3, .ref (A 517)), (4, .int (Int32.ofInt i))]) (show cdA 350 1732 = some (.istore 5, 2, 0, 0, 0) from rfl) (by decide) (fun _ h => h) ?_
    refine z_aload_n X (x := A 179) (show cdA 350 1734 = some (.aload_n 2, 1, 0, 0, 0) from rfl) (List.Mem.tail _ (List.Mem.tail _ (List.Mem.tail _ (List.Mem.head _)))) ?_
    refine z_aload_n X (x := q1) (show cdA 350 1735 = some (.aload_n 0, 1, 0, 0, 0) from rfl) (List.Mem.tail _ (List.Mem.head _)) ?_
    refine z_load X (x := i) (show cdA 350 1736 = some (.iload 4, 2, 0, 0, 0) from rfl) (List.Mem.tail _ (List.Mem.tail _ (List.Mem.tail _ (List.Mem.tail _ (List.Mem.tail _ (List.Mem.head _)))))) ?_
    refine z_const X (show cdA 350 1738 = some (.iconst 1, 1, 0, 0, 0) from rfl) ?_
    refine z_add X (show cdA 350 1739 = some (.iadd, 1, 0, 0, 0) from rfl) ?_
    refine z_sld X S hL (show cdA 350 1740 = some (.iaload, 1, 0, 0, 0) from rfl) (show 0 ≤ (i + 1) ∧ (i + 1) < (L : Int) by first | (clear he12; omega) | omega) ?_
    have sr15 : rng (sc xs (i + 1)) := sc_rng
    refine z_aload_n X (x := q1) (show cdA 350 1741 = some (.aload_n 0, 1, 0, 0, 0) from rfl) (List.Mem.tail _ (List.Mem.head _)) ?_
    refine z_load X (x := i) (show cdA 350 1742 = some (.iload 4, 2, 0, 0, 0) from rfl) (List.Mem.tail _ (List.Mem.tail _ (List.Mem.tail _ (List.Mem.tail _ (List.Mem.tail _ (List.Mem.head _)))))) ?_
    refine z_const X (show cdA 350 1744 = some (.iconst 2, 1, 0, 0, 0) from rfl) ?_
    refine z_add X (show cdA 350 1745 = some (.iadd, 1, 0, 0, 0) from rfl) ?_
    refine z_sld X S hL (show cdA 350 1746 = some (.iaload, 1, 0, 0, 0) from rfl) (show 0 ≤ (i + 2) ∧ (i + 2) < (L : Int) by first | (clear he12; omega) | omega) ?_
    have sr16 : rng (sc xs (i + 2)) := sc_rng
    refine z_aload_n X (x := q1) (show cdA 350 1747 = some (.aload_n 0, 1, 0, 0, 0) from rfl) (List.Mem.tail _ (List.Mem.head _)) ?_
    refine z_load X (x := i) (show cdA 350 1748 = some (.iload 4, 2, 0, 0, 0) from rfl) (List.Mem.tail _ (List.Mem.tail _ (List.Mem.tail _ (List.Mem.tail _ (List.Mem.tail _ (List.Mem.head _)))))) ?_
    refine z_const X (show cdA 350 1750 = some (.iconst 3, 1, 0, 0, 0) from rfl) ?_
    refine z_add X (show cdA 350 1751 = some (.iadd, 1, 0, 0, 0) from rfl) ?_
    refine z_sld X S hL (show cdA 350 1752 = some (.iaload, 1, 0, 0, 0) from rfl) (show 0 ≤ (i + 3) ∧ (i + 3) < (L : Int) by first | (clear he12; omega) | omega) ?_
    have sr17 : rng (sc xs (i + 3)) := sc_rng
    refine z_aload_n X (x := q1) (show cdA 350 1753 = some (.aload_n 0, 1, 0, 0, 0) from rfl) (List.Mem.tail _ (List.Mem.head _)) ?_
    refine z_load X (x := i) (show cdA 350 1754 = some (.iload 4, 2, 0, 0, 0) from rfl) (List.Mem.tail _ (List.Mem.tail _ (List.Mem.tail _ (List.Mem.tail _ (List.Mem.tail _ (List.Mem.head _)))))) ?_
    refine z_const X (show cdA 350 1756 = some (.iconst 4, 1, 0, 0, 0) from rfl) ?_
    refine z_add X (show cdA 350 1757 = some (.iadd, 1, 0, 0, 0) from rfl) ?_
    refine z_sld X S hL (show cdA 350 1758 = some (.iaload, 1, 0, 0, 0) from rfl) (show 0 ≤ (i + 4) ∧ (i + 4) < (L : Int) by first | (clear he12; omega) | omega) ?_
    have sr18 : rng (sc xs (i + 4)) := sc_rng
    have N19 : ∀ e20 : Int, ((((sc xs (i + 4)) = 0) ∧ e20 = 0) ∨ (((sc xs (i + 4)) ≠ 0) ∧ e20 = 1)) → WS k 1767 [(5, .int (Int32.ofInt e14)), (0, .ref q1), (1, .ref (A 0)), (2, .ref (A 179)), (3, .ref (A 517)), (4, .int (Int32.ofInt i))] [.int (Int32.ofInt e20), .int (Int32.ofInt (sc xs (i + 3))), .int (Int32.ofInt (sc xs (i + 2))), .int (Int32.ofInt (sc xs (i + 1))), .ref (A 179)] (Wd A dT s13) (ce + 2) (sl + 12) := by
      intro e20 he20
      have re20 : 0 ≤ e20 ∧ e20 ≤ 1 := by first | (clear he20 he12; omega) | (clear he12; omega) | omega
      refine z_callV X 179 (rm := rmN 290) (As := [.int (Int32.ofInt (sc xs (i + 1))), .int (Int32.ofInt (sc xs (i + 2))), .int (Int32.ofInt (sc xs (i + 3))), .int (Int32.ofInt e20)]) (st := []) (show cdA 350 1767 = some (.invokevirtual 273, 3, 290, 0, 0) from rfl) rfl (by decide) rfl (by rw [E.1, E.2.1, E.2.2.1]; exact k_lead G Is13 JRLx_s13 (by first | exact ⟨sr15.1, sr15.2⟩ | omega) (by first | exact ⟨sr16.1, sr16.2⟩ | omega) (by first | exact ⟨sr17.1, sr17.2⟩ | omega) (by first | (clear he20 he12; omega) | (clear he12; omega) | omega)) ⟨by rw [E.2.2.2]; exact (show 37 + 1 ≤ 2048 by first | (clear he20 he12; omega) | (clear he12; omega) | omega), by rw [E.2.2.2]; exact (show 8 + (10 + 11) + 1578 ≤ 84000 by first | (clear he20 he12; omega) | (clear he12; omega) | omega), by rw [E.2.2.2]; exact (show (ce + 2) + 1 ≤ 601024 by first | (clear he20 he12; omega) | (clear he12; omega) | omega), by rw [E.2.2.2]; exact (show (sl + 12) + 12 ≤ 7293034 by first | (clear he20 he12; omega) | (clear he12; omega) | omega)⟩ (Nat.le_of_ble_eq_true rfl) (fun vv s21 hq => ?_) (fun ee s21 hq => ?_)
      rotate_left
      · obtain ⟨Is21, Fs21, JRLx_s21, e22, hv, hrs21, hps21⟩ := hq; cases hv
      obtain ⟨Is21, Fs21, JRLx_s21, e22, hv, hrs21, hps21⟩ := hq
      cases hv
      have Gs21 := fm_ts Gs13 Fs21 (by decide) (by decide)
      have JRLx_s21 : RLx s21 := RLx_fm Fs21 (by decide) JRLx_s13
      have JFEQ_s21 : FEQ s21 := FEQ_fm Fs21 (by decide) JFEQ_s13
      have ws21_0 : iI s21 0 = iI s13 0 := fm_i Fs21 (by decide)
      have ws21_74 : iI s21 74 = iI s13 74 := fm_i Fs21 (by decide)
      have ws21_9 : iI s21 9 = iI s13 9 := fm_i Fs21 (by decide)
      have ws21_90 : iI s21 90 = iI s13 90 := fm_i Fs21 (by decide)
      have ws21_12 : iI s21 12 = iI s13 12 := fm_i Fs21 (by decide)
      have ws21_89 : iI s21 89 = iI s13 89 := fm_i Fs21 (by decide)
      have wos21 : iO s21 = iO s13 := fm_o Fs21 (by decide)
      show WS k 1770 [(5, .int (Int32.ofInt e14)), (0, .ref q1), (1, .ref (A 0)), (2, .ref (A 179)), (3, .ref (A 517)), (4, .int (Int32.ofInt i))] [.int (Int32.ofInt e22)] (Wd A dT s21) ((ce + 2) + 1) ((sl + 12) + 12)
      refine z_store X (lv' := [(6, .int (Int32.ofInt e22)), (5, .int (Int32.ofInt e14)), (0, .ref q1), (1, .ref (A 0)), (2, .ref (A 179)), (3, .ref (A 517)), (4, .int (Int32.ofInt i))]) (show cdA 350 1770 = some (.istore 6, 2, 0, 0, 0) from rfl) (by decide) (fun _ h => h) ?_
      refine z_goto X (t := 1894) (show cdA 350 1772 = some (.goto 122, 3, 0, 0, 0) from rfl) (by decide) ?_
      refine w_widen (ce' := ce + 29) (sl' := sl + 222) (by first | (clear he20 he12; omega) | (clear he12; omega) | omega) (by first | (clear he20 he12; omega) | (clear he12; omega) | omega) ?_
      exact WS_lv (lv := [(0, .ref q1), (1, .ref (A 0)), (2, .ref (A 179)), (3, .ref (A 517)), (4, .int (Int32.ofInt i))]) (List.forall_mem_cons.mpr ⟨(List.Mem.tail _ (List.Mem.tail _ (List.Mem.head _))), (List.forall_mem_cons.mpr ⟨(List.Mem.tail _ (List.Mem.tail _ (List.Mem.tail _ (List.Mem.head _)))), (List.forall_mem_cons.mpr ⟨(List.Mem.tail _ (List.Mem.tail _ (List.Mem.tail _ (List.Mem.tail _ (List.Mem.head _))))), (List.forall_mem_cons.mpr ⟨(List.Mem.tail _ (List.Mem.tail _ (List.Mem.tail _ (List.Mem.tail _ (List.Mem.tail _ (List.Mem.head _)))))), (List.forall_mem_cons.mpr ⟨(List.Mem.tail _ (List.Mem.tail _ (List.Mem.tail _ (List.Mem.tail _ (List.Mem.tail _ (List.Mem.tail _ (List.Mem.head _))))))), (fun q h => absurd h List.not_mem_nil)⟩)⟩)⟩)⟩)⟩) (hk A _ Is21 JRLx_s21 JFEQ_s21 (by first | (clear he20 he12; omega) | (clear he12; omega) | omega) (by first | (clear he20 he12; omega) | (clear he12; omega) | omega) (by first | (clear he20 he12; omega) | (clear he12; omega) | omega) (by first | (clear he20 he12; omega) | (clear he12; omega) | omega))
    refine z_if_eq X (t := 1766) (show cdA 350 1759 = some (.ifCond .eq 7, 3, 0, 0, 1) from rfl) (by decide) ⟨by first | exact sr18.1 | omega, by first | exact sr18.2 | omega⟩ (fun g23 => ?_) (fun g23 => ?_)
    ·
      refine z_const X (show cdA 350 1766 = some (.iconst 0, 1, 0, 0, 0) from rfl) ?_
      exact N19 _ (Or.inl ⟨g23, rfl⟩)
    ·
      refine z_const X (show cdA 350 1762 = some (.iconst 1, 1, 0, 0, 0) from rfl) ?_
      refine z_goto X (t := 1767) (show cdA 350 1763 = some (.goto 4, 3, 0, 0, 0) from rfl) (by decide) ?_
      exact N19 _ (Or.inr (⟨g23, rfl⟩))
  refine z_if_eq X (t := 1727) (show cdA 350 1720 = some (.ifCond .eq 7, 3, 0, 0, 1) from rfl) (by decide) ⟨by first | exact sr10.1 | omega, by first | exact sr10.2 | omega⟩ (fun g24 => ?_) (fun g24 => ?_)
  ·
    refine z_const X (show cdA 350 1727 = some (.iconst 0, 1, 0, 0, 0) from rfl) ?_
    exact N11 _ (Or.inl ⟨g24, rfl⟩)
  ·
    refine z_const X (show cdA 350 1723 = some (.iconst 1, 1, 0, 0, 0) from rfl) ?_
    refine z_goto X (t := 1728) (show cdA 350 1724 = some (.goto 4, 3, 0, 0, 0) from rfl) (by decide) ?_
    exact N11 _ (Or.inr (⟨g24, rfl⟩))
theorem lc_39 (G : GX l s0 D tys a0 dT) (GR : RS0 s0) (SF : SF0 s0) (GT : TXs0 s0) (GW : TXw0 s0) {k : kx_T} (X : AX k 350 dT) (E : kL k = l ∧ kS0 k = s0 ∧ kD k = D ∧ kR k = room_1) {q1 L : Nat} {xs : Nat → Int32} (S : SX k q1 L xs) (hL : L ≤ 3072) (I : Bd s) (jR : RLx s) (jFEQ : FEQ s) (p1 : iI s 89 = 1) (p2 : iI s 12 ≤ 8) (p3 : iI s 0 = iI s 74) (p4 : iI s 9 = iI s 90) {i : Int} (hi : 0 ≤ i ∧ i + 6 ≤ (L : Int)) {ce sl : Nat} (hce : ce + 29 ≤ 601024) (hsl : sl + 222 ≤ 7293034) (hk : ∀ (A : Nat → Nat) (t : PS), Bd t → RLx t → FEQ t → iI t 89 = 1 → iI t 12 ≤ 8 → iI t 0 = iI t 74 → iI t 9 = iI t 90 → WS k 1894 [(0, .ref q1), (1, .ref (A 0)), (2, .ref (A 179)), (3, .ref (A 517)), (4, .int (Int32.ofInt i))] [] (Wd A dT t) (ce + 29) (sl + 222)) : WS k 1775 [(0, .ref q1), (1, .ref (A 0)), (2, .ref (A 179)), (3, .ref (A 517)), (4, .int (Int32.ofInt i))] [] (Wd A dT s) ce sl := by
  have F : Fm [22, 23, 24, 73, 77, 75, 78, 79, 80, 81] [33, 26, 27, 28, 29, 30, 31, 32, 20, 36, 37, 35, 21, 1022, 1023, 1460, 202, 204, 205, 206, 207, 208, 209, 210, 211, 212, 213, 214, 215, 216, 217, 218, 219, 220, 221, 222, 223, 224, 225, 226, 227, 203, 161, 230, 233, 228] s s := fm_rf _ _ s
  have b1 : (0 : Int) ≤ iI s 0 ∧ iI s 0 ≤ 200 := I.1 0
  have b2 : (0 : Int) ≤ iI s 74 ∧ iI s 74 ≤ 200 := I.1 74
  have b3 : (0 : Int) ≤ iI s 9 ∧ iI s 9 ≤ 12 := I.1 9
  have b4 : (0 : Int) ≤ iI s 90 ∧ iI s 90 ≤ 12 := I.1 90
  have b5 : (0 : Int) ≤ iI s 12 ∧ iI s 12 ≤ 9 := I.1 12
  have b6 : (1 : Int) ≤ iI s 89 ∧ iI s 89 ≤ 8 := I.1 89
  refine z_aload_n X (x := A 0) (show cdA 350 1775 = some (.aload_n 1, 1, 0, 0, 0) from rfl) (List.Mem.tail _ (List.Mem.head _)) ?_
  refine z_aload_n X (x := q1) (show cdA 350 1776 = some (.aload_n 0, 1, 0, 0, 0) from rfl) (List.Mem.head _) ?_
  refine z_load X (x := i) (show cdA 350 1777 = some (.iload 4, 2, 0, 0, 0) from rfl) (List.Mem.tail _ (List.Mem.tail _ (List.Mem.tail _ (List.Mem.tail _ (List.Mem.head _))))) ?_
  refine z_const X (show cdA 350 1779 = some (.iconst 1, 1, 0, 0, 0) from rfl) ?_
  refine z_add X (show cdA 350 1780 = some (.iadd, 1, 0, 0, 0) from rfl) ?_
  refine z_sld X S hL (show cdA 350 1781 = some (.iaload, 1, 0, 0, 0) from rfl) (show 0 ≤ (i + 1) ∧ (i + 1) < (L : Int) by omega) ?_
  have sr7 : rng (sc xs (i + 1)) := sc_rng
  refine z_aload_n X (x := q1) (show cdA 350 1782 = some (.aload_n 0, 1, 0, 0, 0) from rfl) (List.Mem.head _) ?_
  refine z_load X (x := i) (show cdA 350 1783 = some (.iload 4, 2, 0, 0, 0) from rfl) (List.Mem.tail _ (List.Mem.tail _ (List.Mem.tail _ (List.Mem.tail _ (List.Mem.head _))))) ?_
  refine z_const X (show cdA 350 1785 = some (.iconst 2, 1, 0, 0, 0) from rfl) ?_
  refine z_add X (show cdA 350 1786 = some (.iadd, 1, 0, 0, 0) from rfl) ?_
  refine z_sld X S hL (show cdA 350 1787 = some (.iaload, 1, 0, 0, 0) from rfl) (show 0 ≤ (i + 2) ∧ (i + 2) < (L : Int) by omega) ?_
  have sr8 : rng (sc xs (i + 2)) := sc_rng
  refine z_aload_n X (x := A 517) (show cdA 350 1788 = some (.aload_n 3, 1, 0, 0, 0) from rfl) (List.Mem.tail _ (List.Mem.tail _ (List.Mem.tail _ (List.Mem.head _)))) ?_
  refine z_callL X (rm := rmN 348) (As := [.ref (A 0), .int (Int32.ofInt (sc xs (i + 1))), .int (Int32.ofInt (sc xs (i + 2))), .ref (A 517)]) (st := []) (show cdA 350 1789 = some (.invokestatic 274, 3, 348, 6, 0) from rfl) (by decide) rfl (by rw [E.1, E.2.1, E.2.2.1]; exact lw_worth G I (by omega) (by omega)) ⟨by rw [E.2.2.2]; exact (show 13 + 1 ≤ 2048 by omega), by rw [E.2.2.2]; exact (show 8 + (5 + 11) + 262 ≤ 84000 by omega), by rw [E.2.2.2]; exact (show ce + 3 ≤ 601024 by omega), by rw [E.2.2.2]; exact (show sl + 18 ≤ 7293034 by omega)⟩ (Nat.le_of_ble_eq_true rfl) (fun vv A s9 hA2 hq => ?_) (fun ee A s9 hA2 hq => ?_)
  rotate_left
  · obtain ⟨Is9, Fs9, e10, hv, hrs9, hps9⟩ := hq; cases hv
  obtain ⟨Is9, Fs9, e10, hv, hrs9, hps9⟩ := hq
  cases hv
  rw [← hA2 0 (by decide)]
  rw [← hA2 179 (by decide)]
  rw [← hA2 517 (by decide)]
  have Gs9 := fm_ts F Fs9 (by decide) (by decide)
  have JRLx_s9 : RLx s9 := RLx_fm Fs9 (by decide) jR
  have JFEQ_s9 : FEQ s9 := FEQ_fm Fs9 (by decide) jFEQ
  have ws9_0 : iI s9 0 = iI s 0 := fm_i Fs9 (by decide)
  have ws9_74 : iI s9 74 = iI s 74 := fm_i Fs9 (by decide)
  have ws9_9 : iI s9 9 = iI s 9 := fm_i Fs9 (by decide)
  have ws9_90 : iI s9 90 = iI s 90 := fm_i Fs9 (by decide)
  have ws9_12 : iI s9 12 = iI s 12 := fm_i Fs9 (by decide)
  have ws9_89 : iI s9 89 = iI s 89 := fm_i Fs9 (by decide)
  show WS k 1792 [(0, .ref q1), (1, .ref (A 0)), (2, .ref (A 179)), (3, .ref (A 517)), (4, .int (Int32.ofInt i))] [.int (Int32.ofInt e10)] (Wd A dT s9) (ce + 3) (sl + 18)
  refine z_store X (lv' := [(5, .int (Int32.ofInt e10)), (0, .ref q1), (1, .ref (A 0)), (2, .ref (A 179)), (3, .ref (A 517)), (4, .int (Int32.ofInt i))]) (show cdA 350 1792 = some (.istore 5, 2, 0, 0, 0) from rfl) (by decide) (fun _ h => h) ?_
  refine z_aload_n X (x := A 179) (show cdA 350 1794 = some (.aload_n 2, 1, 0, 0, 0) from rfl) (List.Mem.tail _ (List.Mem.tail _ (List.Mem.tail _ (List.Mem.head _)))) ?_
  refine z_aload_n X (x := q1) (show cdA 350 1795 = some (.aload_n 0, 1, 0, 0, 0) from rfl) (List.Mem.tail _ (List.Mem.head _)) ?_
  refine z_load X (x := i) (show cdA 350 1796 = some (.iload 4, 2, 0, 0, 0) from rfl) (List.Mem.tail _ (List.Mem.tail _ (List.Mem.tail _ (List.Mem.tail _ (List.Mem.tail _ (List.Mem.head _)))))) ?_
  refine z_const X (show cdA 350 1798 = some (.iconst 1, 1, 0, 0, 0) from rfl) ?_
  refine z_add X (show cdA 350 1799 = some (.iadd, 1, 0, 0, 0) from rfl) ?_
  refine z_sld X S hL (show cdA 350 1800 = some (.iaload, 1, 0, 0, 0) from rfl) (show 0 ≤ (i + 1) ∧ (i + 1) < (L : Int) by omega) ?_
  have sr11 : rng (sc xs (i + 1)) := sc_rng
  refine z_aload_n X (x := q1) (show cdA 350 1801 = some (.aload_n 0, 1, 0, 0, 0) from rfl) (List.Mem.tail _ (List.Mem.head _)) ?_
  refine z_load X (x := i) (show cdA 350 1802 = some (.iload 4, 2, 0, 0, 0) from rfl) (List.Mem.tail _ (List.Mem.tail _ (List.Mem.tail _ (List.Mem.tail _ (List.Mem.tail _ (List.Mem.head _)))))) ?_
  refine z_const X (show cdA 350 1804 = some (.iconst 2, 1, 0, 0, 0) from rfl) ?_
  refine z_add X (show cdA 350 1805 = some (.iadd, 1, 0, 0, 0) from rfl) ?_
  refine z_sld X S hL (show cdA 350 1806 = some (.iaload, 1, 0, 0, 0) from rfl) (show 0 ≤ (i + 2) ∧ (i + 2) < (L : Int) by omega) ?_
  have sr12 : rng (sc xs (i + 2)) := sc_rng
  refine z_callV X 179 (rm := rmN 291) (As := [.int (Int32.ofInt (sc xs (i + 1))), .int (Int32.ofInt (sc xs (i + 2)))]) (st := []) (show cdA 350 1807 = some (.invokevirtual 276, 3, 291, 0, 0) from rfl) rfl (by decide) rfl (by rw [E.1, E.2.1, E.2.2.1]; exact k_worth G Is9 JRLx_s9 (by first | exact ⟨sr11.1, sr11.2⟩ | omega) (by first | exact ⟨sr12.1, sr12.2⟩ | omega)) ⟨by rw [E.2.2.2]; exact (show 41 + 1 ≤ 2048 by omega), by rw [E.2.2.2]; exact (show 8 + (6 + 11) + 1663 ≤ 84000 by omega), by rw [E.2.2.2]; exact (show (ce + 3) + 0 ≤ 601024 by omega), by rw [E.2.2.2]; exact (show (sl + 18) + 0 ≤ 7293034 by omega)⟩ (Nat.le_of_ble_eq_true rfl) (fun vv s13 hq => ?_) (fun ee s13 hq => ?_)
  rotate_left
  · obtain ⟨Is13, Fs13, JRLx_s13, e14, hv, hrs13, hps13⟩ := hq; cases hv
  obtain ⟨Is13, Fs13, JRLx_s13, e14, hv, hrs13, hps13⟩ := hq
  cases hv
  have Gs13 := fm_ts Gs9 Fs13 (by decide) (by decide)
  have JRLx_s13 : RLx s13 := RLx_fm Fs13 (by decide) JRLx_s9
  have JFEQ_s13 : FEQ s13 := FEQ_fm Fs13 (by decide) JFEQ_s9
  have ws13_0 : iI s13 0 = iI s9 0 := fm_i Fs13 (by decide)
  have ws13_74 : iI s13 74 = iI s9 74 := fm_i Fs13 (by decide)
  have ws13_9 : iI s13 9 = iI s9 9 := fm_i Fs13 (by decide)
  have ws13_90 : iI s13 90 = iI s9 90 := fm_i Fs13 (by decide)
  have ws13_12 : iI s13 12 = iI s9 12 := fm_i Fs13 (by decide)
  have ws13_89 : iI s13 89 = iI s9 89 := fm_i Fs13 (by decide)
  have wos13 : iO s13 = iO s9 := fm_o Fs13 (by decide)
  show WS k 1810 [(5, .int (Int32.ofInt e10)), (0, .ref q1), (1, .ref (A 0)), (2, .ref (A 179)), (3, .ref (A 517)), (4, .int (Int32.ofInt i))] [.int (Int32.ofInt e14)] (Wd A dT s13) (ce + 3) (sl + 18)
  refine z_store X (lv' := [(6, .int (Int32.ofInt e14)), (5, .int (Int32.ofInt e10)), (0, .ref q1), (1, .ref (A 0)), (2, .ref (A 179)), (3, .ref (A 517)), (4, .int (Int32.ofInt i))]) (show cdA 350 1810 = some (.istore 6, 2, 0, 0, 0) from rfl) (by decide) (fun _ h => h) ?_
  refine z_goto X (t := 1894) (show cdA 350 1812 = some (.goto 82, 3, 0, 0, 0) from rfl) (by decide) ?_
  refine w_widen (ce' := ce + 29) (sl' := sl + 222) (by omega) (by omega) ?_
  exact WS_lv (lv := [(0, .ref q1), (1, .ref (A 0)), (2, .ref (A 179)), (3, .ref (A 517)), (4, .int (Int32.ofInt i))]) (List.forall_mem_cons.mpr ⟨(List.Mem.tail _ (List.Mem.tail _ (List.Mem.head _))), (List.forall_mem_cons.mpr ⟨(List.Mem.tail _ (List.Mem.tail _ (List.Mem.tail _ (List.Mem.head _)))), (List.forall_mem_cons.mpr ⟨(List.Mem.tail _ (List.Mem.tail _ (List.Mem.tail _ (List.Mem.tail _ (List.Mem.head _))))), (List.forall_mem_cons.mpr ⟨(List.Mem.tail _ (List.Mem.tail _ (List.Mem.tail _ (List.Mem.tail _ (List.Mem.tail _ (List.Mem.head _)))))), (List.forall_mem_cons.mpr ⟨(List.Mem.tail _ (List.Mem.tail _ (List.Mem.tail _ (List.Mem.tail _ (List.Mem.tail _ (List.Mem.tail _ (List.Mem.head _))))))), (fun q h => absurd h List.not_mem_nil)⟩)⟩)⟩)⟩)⟩) (hk A _ Is13 JRLx_s13 JFEQ_s13 (by omega) (by omega) (by omega) (by omega))
theorem lc_40 (G : GX l s0 D tys a0 dT) (GR : RS0 s0) (SF : SF0 s0) (GT : TXs0 s0) (GW : TXw0 s0) {k : kx_T} (X : AX k 350 dT) (E : kL k = l ∧ kS0 k = s0 ∧ kD k = D ∧ kR k = room_1) {q1 L : Nat} {xs : Nat → Int32} (S : SX k q1 L xs) (hL : L ≤ 3072) (I : Bd s) (jR : RLx s) (jFEQ : FEQ s) (p1 : iI s 89 = 1) (p2 : iI s 12 ≤ 8) (p3 : iI s 0 = iI s 74) (p4 : iI s 9 = iI s 90) {i : Int} (hi : 0 ≤ i ∧ i + 6 ≤ (L : Int)) {ce sl : Nat} (hce : ce + 29 ≤ 601024) (hsl : sl + 222 ≤ 7293034) (hk : ∀ (A : Nat → Nat) (t : PS), Bd t → RLx t → FEQ t → iI t 89 = 1 → iI t 12 ≤ 8 → iI t 0 = iI t 74 → iI t 9 = iI t 90 → WS k 1894 [(0, .ref q1), (1, .ref (A 0)), (2, .ref (A 179)), (3, .ref (A 517)), (4, .int (Int32.ofInt i))] [] (Wd A dT t) (ce + 29) (sl + 222)) : WS k 1815 [(0, .ref q1), (1, .ref (A 0)), (2, .ref (A 179)), (3, .ref (A 517)), (4, .int (Int32.ofInt i))] [] (Wd A dT s) ce sl := by
  have F : Fm [73] [1460] s s := fm_rf _ _ s
  have b1 : (0 : Int) ≤ iI s 0 ∧ iI s 0 ≤ 200 := I.1 0
  have b2 : (0 : Int) ≤ iI s 74 ∧ iI s 74 ≤ 200 := I.1 74
  have b3 : (0 : Int) ≤ iI s 9 ∧ iI s 9 ≤ 12 := I.1 9
  have b4 : (0 : Int) ≤ iI s 90 ∧ iI s 90 ≤ 12 := I.1 90
  have b5 : (0 : Int) ≤ iI s 12 ∧ iI s 12 ≤ 9 := I.1 12
  have b6 : (1 : Int) ≤ iI s 89 ∧ iI s 89 ≤ 8 := I.1 89
  refine z_aload_n X (x := A 0) (show cdA 350 1815 = some (.aload_n 1, 1, 0, 0, 0) from rfl) (List.Mem.tail _ (List.Mem.head _)) ?_
  refine z_aload_n X (x := q1) (show cdA 350 1816 = some (.aload_n 0, 1, 0, 0, 0) from rfl) (List.Mem.head _) ?_
  refine z_load X (x := i) (show cdA 350 1817 = some (.iload 4, 2, 0, 0, 0) from rfl) (List.Mem.tail _ (List.Mem.tail _ (List.Mem.tail _ (List.Mem.tail _ (List.Mem.head _))))) ?_
  refine z_const X (show cdA 350 1819 = some (.iconst 1, 1, 0, 0, 0) from rfl) ?_
  refine z_add X (show cdA 350 1820 = some (.iadd, 1, 0, 0, 0) from rfl) ?_
  refine z_sld X S hL (show cdA 350 1821 = some (.iaload, 1, 0, 0, 0) from rfl) (show 0 ≤ (i + 1) ∧ (i + 1) < (L : Int) by omega) ?_
  have sr7 : rng (sc xs (i + 1)) := sc_rng
  refine z_aload_n X (x := A 517) (show cdA 350 1822 = some (.aload_n 3, 1, 0, 0, 0) from rfl) (List.Mem.tail _ (List.Mem.tail _ (List.Mem.tail _ (List.Mem.head _)))) ?_
  refine z_callL X (rm := rmN 349) (As := [.ref (A 0), .int (Int32.ofInt (sc xs (i + 1))), .ref (A 517)]) (st := []) (show cdA 350 1823 = some (.invokestatic 277, 3, 349, 6, 0) from rfl) (by decide) rfl (by rw [E.1, E.2.1, E.2.2.1]; exact lw_quiet G I (by omega)) ⟨by rw [E.2.2.2]; exact (show 9 + 1 ≤ 2048 by omega), by rw [E.2.2.2]; exact (show 8 + (4 + 11) + 166 ≤ 84000 by omega), by rw [E.2.2.2]; exact (show ce + 1 ≤ 601024 by omega), by rw [E.2.2.2]; exact (show sl + 6 ≤ 7293034 by omega)⟩ (Nat.le_of_ble_eq_true rfl) (fun vv A s8 hA2 hq => ?_) (fun ee A s8 hA2 hq => ?_)
  rotate_left
  · obtain ⟨Is8, Fs8, e9, hv, hrs8, hps8⟩ := hq; cases hv
  obtain ⟨Is8, Fs8, e9, hv, hrs8, hps8⟩ := hq
  cases hv
  rw [← hA2 0 (by decide)]
  rw [← hA2 179 (by decide)]
  rw [← hA2 517 (by decide)]
  have Gs8 := fm_ts F Fs8 (by decide) (by decide)
  have JRLx_s8 : RLx s8 := RLx_fm Fs8 (by decide) jR
  have JFEQ_s8 : FEQ s8 := FEQ_fm Fs8 (by decide) jFEQ
  have ws8_0 : iI s8 0 = iI s 0 := fm_i Fs8 (by decide)
  have ws8_74 : iI s8 74 = iI s 74 := fm_i Fs8 (by decide)
  have ws8_9 : iI s8 9 = iI s 9 := fm_i Fs8 (by decide)
  have ws8_90 : iI s8 90 = iI s 90 := fm_i Fs8 (by decide)
  have ws8_12 : iI s8 12 = iI s 12 := fm_i Fs8 (by decide)
  have ws8_89 : iI s8 89 = iI s 89 := fm_i Fs8 (by decide)
  show WS k 1826 [(0, .ref q1), (1, .ref (A 0)), (2, .ref (A 179)), (3, .ref (A 517)), (4, .int (Int32.ofInt i))] [.int (Int32.ofInt e9)] (Wd A dT s8) (ce + 1) (sl + 6)
  refine z_store X (lv' := [(5, .int (Int32.ofInt e9)), (0, .ref q1), (1, .ref (A 0)), (2, .ref (A 179)), (3, .ref (A 517)), (4, .int (Int32.ofInt i))]) (show cdA 350 1826 = some (.istore 5, 2, 0, 0, 0) from rfl) (by decide) (fun _ h => h) ?_
  refine z_aload_n X (x := A 179) (show cdA 350 1828 = some (.aload_n 2, 1, 0, 0, 0) from rfl) (List.Mem.tail _ (List.Mem.tail _ (List.Mem.tail _ (List.Mem.head _)))) ?_
  refine z_aload_n X (x := q1) (show cdA 350 1829 = some (.aload_n 0, 1, 0, 0, 0) from rfl) (List.Mem.tail _ (List.Mem.head _)) ?_
  refine z_load X (x := i) (show cdA 350 1830 = some (.iload 4, 2, 0, 0, 0) from rfl) (List.Mem.tail _ (List.Mem.tail _ (List.Mem.tail _ (List.Mem.tail _ (List.Mem.tail _ (List.Mem.head _)))))) ?_
  refine z_const X (show cdA 350 1832 = some (.iconst 1, 1, 0, 0, 0) from rfl) ?_
  refine z_add X (show cdA 350 1833 = some (.iadd, 1, 0, 0, 0) from rfl) ?_
  refine z_sld X S hL (show cdA 350 1834 = some (.iaload, 1, 0, 0, 0) from rfl) (show 0 ≤ (i + 1) ∧ (i + 1) < (L : Int) by omega) ?_
  have sr10 : rng (sc xs (i + 1)) := sc_rng
  refine z_callV X 179 (rm := rmN 292) (As := [.int (Int32.ofInt (sc xs (i + 1)))]) (st := []) (show cdA 350 1835 = some (.invokevirtual 279, 3, 292, 0, 0) from rfl) rfl (by decide) rfl (by rw [E.1, E.2.1, E.2.2.1]; exact k_quiet G Is8 (by first | exact ⟨sr10.1, sr10.2⟩ | omega)) ⟨by rw [E.2.2.2]; exact (show 7 + 1 ≤ 2048 by omega), by rw [E.2.2.2]; exact (show 8 + (4 + 11) + 123 ≤ 84000 by omega), by rw [E.2.2.2]; exact (show (ce + 1) + 0 ≤ 601024 by omega), by rw [E.2.2.2]; exact (show (sl + 6) + 0 ≤ 7293034 by omega)⟩ (Nat.le_of_ble_eq_true rfl) (fun vv s11 hq => ?_) (fun ee s11 hq => ?_)
  rotate_left
  · obtain ⟨Is11, Fs11, e12, hv, hrs11, hps11⟩ := hq; cases hv
  obtain ⟨Is11, Fs11, e12, hv, hrs11, hps11⟩ := hq
  cases hv
  have Gs11 := fm_ts Gs8 Fs11 (by decide) (by decide)
  have JRLx_s11 : RLx s11 := RLx_fm Fs11 (by decide) JRLx_s8
  have JFEQ_s11 : FEQ s11 := FEQ_fm Fs11 (by decide) JFEQ_s8
  have ws11_0 : iI s11 0 = iI s8 0 := fm_i Fs11 (by decide)
  have ws11_74 : iI s11 74 = iI s8 74 := fm_i Fs11 (by decide)
  have ws11_9 : iI s11 9 = iI s8 9 := fm_i Fs11 (by decide)
  have ws11_90 : iI s11 90 = iI s8 90 := fm_i Fs11 (by decide)
  have ws11_12 : iI s11 12 = iI s8 12 := fm_i Fs11 (by decide)
  have ws11_89 : iI s11 89 = iI s8 89 := fm_i Fs11 (by decide)
  have wos11 : iO s11 = iO s8 := fm_o Fs11 (by decide)
  show WS k 1838 [(5, .int (Int32.ofInt e9)), (0, .ref q1), (1, .ref (A 0)), (2, .ref (A 179)), (3, .ref (A 517)), (4, .int (Int32.ofInt i))] [.int (Int32.ofInt e12)] (Wd A dT s11) (ce + 1) (sl + 6)
  refine z_store X (lv' := [(6, .int (Int32.ofInt e12)), (5, .int (Int32.ofInt e9)), (0, .ref q1), (1, .ref (A 0)), (2, .ref (A 179)), (3, .ref (A 517)), (4, .int (Int32.ofInt i))]) (show cdA 350 1838 = some (.istore 6, 2, 0, 0, 0) from rfl) (by decide) (fun _ h => h) ?_
  refine z_goto X (t := 1894) (show cdA 350 1840 = some (.goto 54, 3, 0, 0, 0) from rfl) (by decide) ?_
  refine w_widen (ce' := ce + 29) (sl' := sl + 222) (by omega) (by omega) ?_
  exact WS_lv (lv := [(0, .ref q1), (1, .ref (A 0)), (2, .ref (A 179)), (3, .ref (A 517)), (4, .int (Int32.ofInt i))]) (List.forall_mem_cons.mpr ⟨(List.Mem.tail _ (List.Mem.tail _ (List.Mem.head _))), (List.forall_mem_cons.mpr ⟨(List.Mem.tail _ (List.Mem.tail _ (List.Mem.tail _ (List.Mem.head _)))), (List.forall_mem_cons.mpr ⟨(List.Mem.tail _ (List.Mem.tail _ (List.Mem.tail _ (List.Mem.tail _ (List.Mem.head _))))), (List.forall_mem_cons.mpr ⟨(List.Mem.tail _ (List.Mem.tail _ (List.Mem.tail _ (List.Mem.tail _ (List.Mem.tail _ (List.Mem.head _)))))), (List.forall_mem_cons.mpr ⟨(List.Mem.tail _ (List.Mem.tail _ (List.Mem.tail _ (List.Mem.tail _ (List.Mem.tail _ (List.Mem.tail _ (List.Mem.head _))))))), (fun q h => absurd h List.not_mem_nil)⟩)⟩)⟩)⟩)⟩) (hk A _ Is11 JRLx_s11 JFEQ_s11 (by omega) (by omega) (by omega) (by omega))
theorem lc_41 (G : GX l s0 D tys a0 dT) (GR : RS0 s0) (SF : SF0 s0) (GT : TXs0 s0) (GW : TXw0 s0) {k : kx_T} (X : AX k 350 dT) (E : kL k = l ∧ kS0 k = s0 ∧ kD k = D ∧ kR k = room_1) {q1 L : Nat} {xs : Nat → Int32} (S : SX k q1 L xs) (hL : L ≤ 3072) (I : Bd s) (jR : RLx s) (jFEQ : FEQ s) (p1 : iI s 89 = 1) (p2 : iI s 12 ≤ 8) (p3 : iI s 0 = iI s 74) (p4 : iI s 9 = iI s 90) {i : Int} (hi : 0 ≤ i ∧ i + 6 ≤ (L : Int)) {ce sl : Nat} (hce : ce + 29 ≤ 601024) (hsl : sl + 222 ≤ 7293034) (hk : ∀ (A : Nat → Nat) (t : PS), Bd t → RLx t → FEQ t → iI t 89 = 1 → iI t 12 ≤ 8 → iI t 0 = iI t 74 → iI t 9 = iI t 90 → WS k 1894 [(0, .ref q1), (1, .ref (A 0)), (2, .ref (A 179)), (3, .ref (A 517)), (4, .int (Int32.ofInt i))] [] (Wd A dT t) (ce + 29) (sl + 222)) : WS k 1843 [(0, .ref q1), (1, .ref (A 0)), (2, .ref (A 179)), (3, .ref (A 517)), (4, .int (Int32.ofInt i))] [] (Wd A dT s) ce sl := by
  have F : Fm [20, 73, 98] [25, 241, 242, 243, 244] s s := fm_rf _ _ s
  have b1 : (0 : Int) ≤ iI s 0 ∧ iI s 0 ≤ 200 := I.1 0
  have b2 : (0 : Int) ≤ iI s 74 ∧ iI s 74 ≤ 200 := I.1 74
  have b3 : (0 : Int) ≤ iI s 9 ∧ iI s 9 ≤ 12 := I.1 9
  have b4 : (0 : Int) ≤ iI s 90 ∧ iI s 90 ≤ 12 := I.1 90
  have b5 : (0 : Int) ≤ iI s 12 ∧ iI s 12 ≤ 9 := I.1 12
  have b6 : (1 : Int) ≤ iI s 89 ∧ iI s 89 ≤ 8 := I.1 89
  refine z_aload_n X (x := A 0) (show cdA 350 1843 = some (.aload_n 1, 1, 0, 0, 0) from rfl) (List.Mem.tail _ (List.Mem.head _)) ?_
  refine z_callV X 0 (rm := rmN 176) (As := []) (st := []) (show cdA 350 1844 = some (.invokevirtual 280, 3, 176, 0, 0) from rfl) rfl (by decide) rfl (by rw [E.1, E.2.1, E.2.2.1]; exact cs_mark G I ) ⟨by rw [E.2.2.2]; exact (show 7 + 1 ≤ 2048 by omega), by rw [E.2.2.2]; exact (show 8 + (1 + 11) + 120 ≤ 84000 by omega), by rw [E.2.2.2]; exact (show ce + 0 ≤ 601024 by omega), by rw [E.2.2.2]; exact (show sl + 0 ≤ 7293034 by omega)⟩ (Nat.le_of_ble_eq_true rfl) (fun vv s7 hq => ?_) (fun ee s7 hq => ?_)
  rotate_left
  · obtain ⟨Is7, Fs7, e8, hv, hrs7, hps7⟩ := hq; cases hv
  obtain ⟨Is7, Fs7, e8, hv, hrs7, hps7⟩ := hq
  cases hv
  have Gs7 := fm_ts F Fs7 (by decide) (by decide)
  have JRLx_s7 : RLx s7 := RLx_fm Fs7 (by decide) jR
  have JFEQ_s7 : FEQ s7 := FEQ_fm Fs7 (by decide) jFEQ
  have ws7_0 : iI s7 0 = iI s 0 := fm_i Fs7 (by decide)
  have ws7_74 : iI s7 74 = iI s 74 := fm_i Fs7 (by decide)
  have ws7_9 : iI s7 9 = iI s 9 := fm_i Fs7 (by decide)
  have ws7_90 : iI s7 90 = iI s 90 := fm_i Fs7 (by decide)
  have ws7_12 : iI s7 12 = iI s 12 := fm_i Fs7 (by decide)
  have ws7_89 : iI s7 89 = iI s 89 := fm_i Fs7 (by decide)
  have wos7 : iO s7 = iO s := fm_o Fs7 (by decide)
  show WS k 1847 [(0, .ref q1), (1, .ref (A 0)), (2, .ref (A 179)), (3, .ref (A 517)), (4, .int (Int32.ofInt i))] [.int (Int32.ofInt e8)] (Wd A dT s7) ce sl
  refine w_pop X.1 (ax_d X (show cdA 350 1847 = some (.pop, 1, 0, 0, 0) from rfl)) rfl ?_
  refine z_aload_n X (x := A 179) (show cdA 350 1848 = some (.aload_n 2, 1, 0, 0, 0) from rfl) (List.Mem.tail _ (List.Mem.tail _ (List.Mem.head _))) ?_
  refine z_callV X 179 (rm := rmN 293) (As := []) (st := []) (show cdA 350 1849 = some (.invokevirtual 283, 3, 293, 0, 0) from rfl) rfl (by decide) rfl (by rw [E.1, E.2.1, E.2.2.1]; exact k_mark G Is7 ) ⟨by rw [E.2.2.2]; exact (show 6 + 1 ≤ 2048 by omega), by rw [E.2.2.2]; exact (show 8 + (2 + 11) + 100 ≤ 84000 by omega), by rw [E.2.2.2]; exact (show ce + 0 ≤ 601024 by omega), by rw [E.2.2.2]; exact (show sl + 0 ≤ 7293034 by omega)⟩ (Nat.le_of_ble_eq_true rfl) (fun vv s9 hq => ?_) (fun ee s9 hq => ?_)
  rotate_left
  · obtain ⟨Is9, Fs9, e10, hv, hrs9, hps9⟩ := hq; cases hv
  obtain ⟨Is9, Fs9, e10, hv, hrs9, hps9⟩ := hq
  cases hv
  have Gs9 := fm_ts Gs7 Fs9 (by decide) (by decide)
  have JRLx_s9 : RLx s9 := RLx_fm Fs9 (by decide) JRLx_s7
  have JFEQ_s9 : FEQ s9 := FEQ_fm Fs9 (by decide) JFEQ_s7
  have ws9_0 : iI s9 0 = iI s7 0 := fm_i Fs9 (by decide)
  have ws9_74 : iI s9 74 = iI s7 74 := fm_i Fs9 (by decide)
  have ws9_9 : iI s9 9 = iI s7 9 := fm_i Fs9 (by decide)
  have ws9_90 : iI s9 90 = iI s7 90 := fm_i Fs9 (by decide)
  have ws9_12 : iI s9 12 = iI s7 12 := fm_i Fs9 (by decide)
  have ws9_89 : iI s9 89 = iI s7 89 := fm_i Fs9 (by decide)
  have wos9 : iO s9 = iO s7 := fm_o Fs9 (by decide)
  show WS k 1852 [(0, .ref q1), (1, .ref (A 0)), (2, .ref (A 179)), (3, .ref (A 517)), (4, .int (Int32.ofInt i))] [.int (Int32.ofInt e10)] (Wd A dT s9) ce sl
  refine w_pop X.1 (ax_d X (show cdA 350 1852 = some (.pop, 1, 0, 0, 0) from rfl)) rfl ?_
  refine z_goto X (t := 1894) (show cdA 350 1853 = some (.goto 41, 3, 0, 0, 0) from rfl) (by decide) ?_
  refine w_widen (ce' := ce + 29) (sl' := sl + 222) (by omega) (by omega) ?_
  exact WS_lv (lv := [(0, .ref q1), (1, .ref (A 0)), (2, .ref (A 179)), (3, .ref (A 517)), (4, .int (Int32.ofInt i))]) (List.forall_mem_cons.mpr ⟨(List.Mem.head _), (List.forall_mem_cons.mpr ⟨(List.Mem.tail _ (List.Mem.head _)), (List.forall_mem_cons.mpr ⟨(List.Mem.tail _ (List.Mem.tail _ (List.Mem.head _))), (List.forall_mem_cons.mpr ⟨(List.Mem.tail _ (List.Mem.tail _ (List.Mem.tail _ (List.Mem.head _)))), (List.forall_mem_cons.mpr ⟨(List.Mem.tail _ (List.Mem.tail _ (List.Mem.tail _ (List.Mem.tail _ (List.Mem.head _))))), (fun q h => absurd h List.not_mem_nil)⟩)⟩)⟩)⟩)⟩) (hk A _ Is9 JRLx_s9 JFEQ_s9 (by omega) (by omega) (by omega) (by omega))
theorem lc_42 (G : GX l s0 D tys a0 dT) (GR : RS0 s0) (SF : SF0 s0) (GT : TXs0 s0) (GW : TXw0 s0) {k : kx_T} (X : AX k 350 dT) (E : kL k = l ∧ kS0 k = s0 ∧ kD k = D ∧ kR k = room_1) {q1 L : Nat} {xs : Nat → Int32} (S : SX k q1 L xs) (hL : L ≤ 3072) (I : Bd s) (jR : RLx s) (jFEQ : FEQ s) (p1 : iI s 89 = 1) (p2 : iI s 12 ≤ 8) (p3 : iI s 0 = iI s 74) (p4 : iI s 9 = iI s 90) {i : Int} (hi : 0 ≤ i ∧ i + 6 ≤ (L : Int)) {ce sl : Nat} (hce : ce + 29 ≤ 601024) (hsl : sl + 222 ≤ 7293034) (hk : ∀ (A : Nat → Nat) (t : PS), Bd t → RLx t → FEQ t → iI t 89 = 1 → iI t 12 ≤ 8 → iI t 0 = iI t 74 → iI t 9 = iI t 90 → WS k 1894 [(0, .ref q1), (1, .ref (A 0)), (2, .ref (A 179)), (3, .ref (A 517)), (4, .int (Int32.ofInt i))] [] (Wd A dT t) (ce + 29) (sl + 222)) : WS k 1856 [(0, .ref q1), (1, .ref (A 0)), (2, .ref (A 179)), (3, .ref (A 517)), (4, .int (Int32.ofInt i))] [] (Wd A dT s) ce sl := by
  have F : Fm [20, 73, 98] [21, 1022, 1023, 228] s s := fm_rf _ _ s
  have b1 : (0 : Int) ≤ iI s 0 ∧ iI s 0 ≤ 200 := I.1 0
  have b2 : (0 : Int) ≤ iI s 74 ∧ iI s 74 ≤ 200 := I.1 74
  have b3 : (0 : Int) ≤ iI s 9 ∧ iI s 9 ≤ 12 := I.1 9
  have b4 : (0 : Int) ≤ iI s 90 ∧ iI s 90 ≤ 12 := I.1 90
  have b5 : (0 : Int) ≤ iI s 12 ∧ iI s 12 ≤ 9 := I.1 12
  have b6 : (1 : Int) ≤ iI s 89 ∧ iI s 89 ≤ 8 := I.1 89
  refine z_aload_n X (x := A 0) (show cdA 350 1856 = some (.aload_n 1, 1, 0, 0, 0) from rfl) (List.Mem.tail _ (List.Mem.head _)) ?_
  refine z_callV X 0 (rm := rmN 177) (As := []) (st := []) (show cdA 350 1857 = some (.invokevirtual 284, 3, 177, 0, 0) from rfl) rfl (by decide) rfl (by rw [E.1, E.2.1, E.2.2.1]; exact cs_back G I ) ⟨by rw [E.2.2.2]; exact (show 8 + 1 ≤ 2048 by omega), by rw [E.2.2.2]; exact (show 8 + (1 + 11) + 147 ≤ 84000 by omega), by rw [E.2.2.2]; exact (show ce + 0 ≤ 601024 by omega), by rw [E.2.2.2]; exact (show sl + 0 ≤ 7293034 by omega)⟩ (Nat.le_of_ble_eq_true rfl) (fun vv s7 hq => ?_) (fun ee s7 hq => ?_)
  rotate_left
  · obtain ⟨Is7, Fs7, e8, hv, hrs7, hps7⟩ := hq; cases hv
  obtain ⟨Is7, Fs7, e8, hv, hrs7, hps7⟩ := hq
  cases hv
  have Gs7 := fm_ts F Fs7 (by decide) (by decide)
  have JRLx_s7 : RLx s7 := RLx_fm Fs7 (by decide) jR
  have JFEQ_s7 : FEQ s7 := FEQ_fm Fs7 (by decide) jFEQ
  have ws7_0 : iI s7 0 = iI s 0 := fm_i Fs7 (by decide)
  have ws7_74 : iI s7 74 = iI s 74 := fm_i Fs7 (by decide)
  have ws7_9 : iI s7 9 = iI s 9 := fm_i Fs7 (by decide)
  have ws7_90 : iI s7 90 = iI s 90 := fm_i Fs7 (by decide)
  have ws7_12 : iI s7 12 = iI s 12 := fm_i Fs7 (by decide)
  have ws7_89 : iI s7 89 = iI s 89 := fm_i Fs7 (by decide)
  have wos7 : iO s7 = iO s := fm_o Fs7 (by decide)
  show WS k 1860 [(0, .ref q1), (1, .ref (A 0)), (2, .ref (A 179)), (3, .ref (A 517)), (4, .int (Int32.ofInt i))] [.int (Int32.ofInt e8)] (Wd A dT s7) ce sl
  refine w_pop X.1 (ax_d X (show cdA 350 1860 = some (.pop, 1, 0, 0, 0) from rfl)) rfl ?_
  refine z_aload_n X (x := A 179) (show cdA 350 1861 = some (.aload_n 2, 1, 0, 0, 0) from rfl) (List.Mem.tail _ (List.Mem.tail _ (List.Mem.head _))) ?_
  refine z_callV X 179 (rm := rmN 294) (As := []) (st := []) (show cdA 350 1862 = some (.invokevirtual 287, 3, 294, 0, 0) from rfl) rfl (by decide) rfl (by rw [E.1, E.2.1, E.2.2.1]; exact k_back G Is7 ) ⟨by rw [E.2.2.2]; exact (show 6 + 1 ≤ 2048 by omega), by rw [E.2.2.2]; exact (show 8 + (2 + 11) + 100 ≤ 84000 by omega), by rw [E.2.2.2]; exact (show ce + 0 ≤ 601024 by omega), by rw [E.2.2.2]; exact (show sl + 0 ≤ 7293034 by omega)⟩ (Nat.le_of_ble_eq_true rfl) (fun vv s9 hq => ?_) (fun ee s9 hq => ?_)
  rotate_left
  · obtain ⟨Is9, Fs9, e10, hv, hrs9, hps9⟩ := hq; cases hv
  obtain ⟨Is9, Fs9, e10, hv, hrs9, hps9⟩ := hq
  cases hv
  have Gs9 := fm_ts Gs7 Fs9 (by decide) (by decide)
  have JRLx_s9 : RLx s9 := RLx_fm Fs9 (by decide) JRLx_s7
  have JFEQ_s9 : FEQ s9 := FEQ_fm Fs9 (by decide) JFEQ_s7
  have ws9_0 : iI s9 0 = iI s7 0 := fm_i Fs9 (by decide)
  have ws9_74 : iI s9 74 = iI s7 74 := fm_i Fs9 (by decide)
  have ws9_9 : iI s9 9 = iI s7 9 := fm_i Fs9 (by decide)
  have ws9_90 : iI s9 90 = iI s7 90 := fm_i Fs9 (by decide)
  have ws9_12 : iI s9 12 = iI s7 12 := fm_i Fs9 (by decide)
  have ws9_89 : iI s9 89 = iI s7 89 := fm_i Fs9 (by decide)
  have wos9 : iO s9 = iO s7 := fm_o Fs9 (by decide)
  show WS k 1865 [(0, .ref q1), (1, .ref (A 0)), (2, .ref (A 179)), (3, .ref (A 517)), (4, .int (Int32.ofInt i))] [.int (Int32.ofInt e10)] (Wd A dT s9) ce sl
  refine w_pop X.1 (ax_d X (show cdA 350 1865 = some (.pop, 1, 0, 0, 0) from rfl)) rfl ?_
  refine z_goto X (t := 1894) (show cdA 350 1866 = some (.goto 28, 3, 0, 0, 0) from rfl) (by decide) ?_
  refine w_widen (ce' := ce + 29) (sl' := sl + 222) (by omega) (by omega) ?_
  exact WS_lv (lv := [(0, .ref q1), (1, .ref (A 0)), (2, .ref (A 179)), (3, .ref (A 517)), (4, .int (Int32.ofInt i))]) (List.forall_mem_cons.mpr ⟨(List.Mem.head _), (List.forall_mem_cons.mpr ⟨(List.Mem.tail _ (List.Mem.head _)), (List.forall_mem_cons.mpr ⟨(List.Mem.tail _ (List.Mem.tail _ (List.Mem.head _))), (List.forall_mem_cons.mpr ⟨(List.Mem.tail _ (List.Mem.tail _ (List.Mem.tail _ (List.Mem.head _)))), (List.forall_mem_cons.mpr ⟨(List.Mem.tail _ (List.Mem.tail _ (List.Mem.tail _ (List.Mem.tail _ (List.Mem.head _))))), (fun q h => absurd h List.not_mem_nil)⟩)⟩)⟩)⟩)⟩) (hk A _ Is9 JRLx_s9 JFEQ_s9 (by omega) (by omega) (by omega) (by omega))
theorem lc_43 (G : GX l s0 D tys a0 dT) (GR : RS0 s0) (SF : SF0 s0) (GT : TXs0 s0) (GW : TXw0 s0) {k : kx_T} (X : AX k 350 dT) (E : kL k = l ∧ kS0 k = s0 ∧ kD k = D ∧ kR k = room_1) {q1 L : Nat} {xs : Nat → Int32} (S : SX k q1 L xs) (hL : L ≤ 3072) (I : Bd s) (jR : RLx s) (jFEQ : FEQ s) (p1 : iI s 89 = 1) (p2 : iI s 12 ≤ 8) (p3 : iI s 0 = iI s 74) (p4 : iI s 9 = iI s 90) {i : Int} (hi : 0 ≤ i ∧ i + 6 ≤ (L : Int)) {ce sl : Nat} (hce : ce + 29 ≤ 601024) (hsl : sl + 222 ≤ 7293034) (hk : ∀ (A : Nat → Nat) (t : PS), Bd t → RLx t → FEQ t → iI t 89 = 1 → iI t 12 ≤ 8 → iI t 0 = iI t 74 → iI t 9 = iI t 90 → WS k 1894 [(0, .ref q1), (1, .ref (A 0)), (2, .ref (A 179)), (3, .ref (A 517)), (4, .int (Int32.ofInt i))] [] (Wd A dT t) (ce + 29) (sl + 222)) : WS k 1869 [(0, .ref q1), (1, .ref (A 0)), (2, .ref (A 179)), (3, .ref (A 517)), (4, .int (Int32.ofInt i))] [] (Wd A dT s) ce sl := by
  have F : Fm [73] [] s s := fm_rf _ _ s
  have b1 : (0 : Int) ≤ iI s 0 ∧ iI s 0 ≤ 200 := I.1 0
  have b2 : (0 : Int) ≤ iI s 74 ∧ iI s 74 ≤ 200 := I.1 74
  have b3 : (0 : Int) ≤ iI s 9 ∧ iI s 9 ≤ 12 := I.1 9
  have b4 : (0 : Int) ≤ iI s 90 ∧ iI s 90 ≤ 12 := I.1 90
  have b5 : (0 : Int) ≤ iI s 12 ∧ iI s 12 ≤ 9 := I.1 12
  have b6 : (1 : Int) ≤ iI s 89 ∧ iI s 89 ≤ 8 := I.1 89
  refine z_aload_n X (x := A 0) (show cdA 350 1869 = some (.aload_n 1, 1, 0, 0, 0) from rfl) (List.Mem.tail _ (List.Mem.head _)) ?_
  refine z_aload_n X (x := q1) (show cdA 350 1870 = some (.aload_n 0, 1, 0, 0, 0) from rfl) (List.Mem.head _) ?_
  refine z_load X (x := i) (show cdA 350 1871 = some (.iload 4, 2, 0, 0, 0) from rfl) (List.Mem.tail _ (List.Mem.tail _ (List.Mem.tail _ (List.Mem.tail _ (List.Mem.head _))))) ?_
  refine z_const X (show cdA 350 1873 = some (.iconst 1, 1, 0, 0, 0) from rfl) ?_
  refine z_add X (show cdA 350 1874 = some (.iadd, 1, 0, 0, 0) from rfl) ?_
  refine z_sld X S hL (show cdA 350 1875 = some (.iaload, 1, 0, 0, 0) from rfl) (show 0 ≤ (i + 1) ∧ (i + 1) < (L : Int) by omega) ?_
  have sr7 : rng (sc xs (i + 1)) := sc_rng
  refine z_callV X 0 (rm := rmN 178) (As := [.int (Int32.ofInt (sc xs (i + 1)))]) (st := []) (show cdA 350 1876 = some (.invokevirtual 288, 3, 178, 0, 0) from rfl) rfl (by decide) rfl (by rw [E.1, E.2.1, E.2.2.1]; exact cs_count G I (by first | exact ⟨sr7.1, sr7.2⟩ | omega)) ⟨by rw [E.2.2.2]; exact (show 8 + 1 ≤ 2048 by omega), by rw [E.2.2.2]; exact (show 8 + (2 + 11) + 143 ≤ 84000 by omega), by rw [E.2.2.2]; exact (show ce + 0 ≤ 601024 by omega), by rw [E.2.2.2]; exact (show sl + 0 ≤ 7293034 by omega)⟩ (Nat.le_of_ble_eq_true rfl) (fun vv s8 hq => ?_) (fun ee s8 hq => ?_)
  rotate_left
  · obtain ⟨Is8, Fs8, e9, hv, hrs8, hps8⟩ := hq; cases hv
  obtain ⟨Is8, Fs8, e9, hv, hrs8, hps8⟩ := hq
  cases hv
  have Gs8 := fm_ts F Fs8 (by decide) (by decide)
  have JRLx_s8 : RLx s8 := RLx_fm Fs8 (by decide) jR
  have JFEQ_s8 : FEQ s8 := FEQ_fm Fs8 (by decide) jFEQ
  have ws8_0 : iI s8 0 = iI s 0 := fm_i Fs8 (by decide)
  have ws8_74 : iI s8 74 = iI s 74 := fm_i Fs8 (by decide)
  have ws8_9 : iI s8 9 = iI s 9 := fm_i Fs8 (by decide)
  have ws8_90 : iI s8 90 = iI s 90 := fm_i Fs8 (by decide)
  have ws8_12 : iI s8 12 = iI s 12 := fm_i Fs8 (by decide)
  have ws8_89 : iI s8 89 = iI s 89 := fm_i Fs8 (by decide)
  have wos8 : iO s8 = iO s := fm_o Fs8 (by decide)
  show WS k 1879 [(0, .ref q1), (1, .ref (A 0)), (2, .ref (A 179)), (3, .ref (A 517)), (4, .int (Int32.ofInt i))] [.int (Int32.ofInt e9)] (Wd A dT s8) ce sl
  refine w_pop X.1 (ax_d X (show cdA 350 1879 = some (.pop, 1, 0, 0, 0) from rfl)) rfl ?_
  refine z_aload_n X (x := A 179) (show cdA 350 1880 = some (.aload_n 2, 1, 0, 0, 0) from rfl) (List.Mem.tail _ (List.Mem.tail _ (List.Mem.head _))) ?_
  refine z_aload_n X (x := q1) (show cdA 350 1881 = some (.aload_n 0, 1, 0, 0, 0) from rfl) (List.Mem.head _) ?_
  refine z_load X (x := i) (show cdA 350 1882 = some (.iload 4, 2, 0, 0, 0) from rfl) (List.Mem.tail _ (List.Mem.tail _ (List.Mem.tail _ (List.Mem.tail _ (List.Mem.head _))))) ?_
  refine z_const X (show cdA 350 1884 = some (.iconst 1, 1, 0, 0, 0) from rfl) ?_
  refine z_add X (show cdA 350 1885 = some (.iadd, 1, 0, 0, 0) from rfl) ?_
  refine z_sld X S hL (show cdA 350 1886 = some (.iaload, 1, 0, 0, 0) from rfl) (show 0 ≤ (i + 1) ∧ (i + 1) < (L : Int) by omega) ?_
  have sr10 : rng (sc xs (i + 1)) := sc_rng
  refine z_callV X 179 (rm := rmN 295) (As := [.int (Int32.ofInt (sc xs (i + 1)))]) (st := []) (show cdA 350 1887 = some (.invokevirtual 291, 3, 295, 0, 0) from rfl) rfl (by decide) rfl (by rw [E.1, E.2.1, E.2.2.1]; exact k_count G Is8 (by first | exact ⟨sr10.1, sr10.2⟩ | omega)) ⟨by rw [E.2.2.2]; exact (show 7 + 1 ≤ 2048 by omega), by rw [E.2.2.2]; exact (show 8 + (6 + 11) + 122 ≤ 84000 by omega), by rw [E.2.2.2]; exact (show ce + 0 ≤ 601024 by omega), by rw [E.2.2.2]; exact (show sl + 0 ≤ 7293034 by omega)⟩ (Nat.le_of_ble_eq_true rfl) (fun vv s11 hq => ?_) (fun ee s11 hq => ?_)
  rotate_left
  · obtain ⟨Is11, Fs11, e12, hv, hrs11, hps11⟩ := hq; cases hv
  obtain ⟨Is11, Fs11, e12, hv, hrs11, hps11⟩ := hq
  cases hv
  have Gs11 := fm_ts Gs8 Fs11 (by decide) (by decide)
  have JRLx_s11 : RLx s11 := RLx_fm Fs11 (by decide) JRLx_s8
  have JFEQ_s11 : FEQ s11 := FEQ_fm Fs11 (by decide) JFEQ_s8
  have ws11_0 : iI s11 0 = iI s8 0 := fm_i Fs11 (by decide)
  have ws11_74 : iI s11 74 = iI s8 74 := fm_i Fs11 (by decide)
  have ws11_9 : iI s11 9 = iI s8 9 := fm_i Fs11 (by decide)
  have ws11_90 : iI s11 90 = iI s8 90 := fm_i Fs11 (by decide)
  have ws11_12 : iI s11 12 = iI s8 12 := fm_i Fs11 (by decide)
  have ws11_89 : iI s11 89 = iI s8 89 := fm_i Fs11 (by decide)
  have wos11 : iO s11 = iO s8 := fm_o Fs11 (by decide)
  show WS k 1890 [(0, .ref q1), (1, .ref (A 0)), (2, .ref (A 179)), (3, .ref (A 517)), (4, .int (Int32.ofInt i))] [.int (Int32.ofInt e12)] (Wd A dT s11) ce sl
  refine w_pop X.1 (ax_d X (show cdA 350 1890 = some (.pop, 1, 0, 0, 0) from rfl)) rfl ?_
  refine z_goto X (t := 1894) (show cdA 350 1891 = some (.goto 3, 3, 0, 0, 0) from rfl) (by decide) ?_
  refine w_widen (ce' := ce + 29) (sl' := sl + 222) (by omega) (by omega) ?_
  exact WS_lv (lv := [(0, .ref q1), (1, .ref (A 0)), (2, .ref (A 179)), (3, .ref (A 517)), (4, .int (Int32.ofInt i))]) (List.forall_mem_cons.mpr ⟨(List.Mem.head _), (List.forall_mem_cons.mpr ⟨(List.Mem.tail _ (List.Mem.head _)), (List.forall_mem_cons.mpr ⟨(List.Mem.tail _ (List.Mem.tail _ (List.Mem.head _))), (List.forall_mem_cons.mpr ⟨(List.Mem.tail _ (List.Mem.tail _ (List.Mem.tail _ (List.Mem.head _)))), (List.forall_mem_cons.mpr ⟨(List.Mem.tail _ (List.Mem.tail _ (List.Mem.tail _ (List.Mem.tail _ (List.Mem.head _))))), (fun q h => absurd h List.not_mem_nil)⟩)⟩)⟩)⟩)⟩) (hk A _ Is11 JRLx_s11 JFEQ_s11 (by omega) (by omega) (by omega) (by omega))
theorem law_head (G : GX l s0 D tys a0 dT) (GR : RS0 s0) (SF : SF0 s0) (GT : TXs0 s0) (GW : TXw0 s0) {k : kx_T} (X : AX k 350 dT) (E : kL k = l ∧ kS0 k = s0 ∧ kD k = D ∧ kR k = room_1) {q1 L : Nat} {xs : Nat → Int32} (S : SX k q1 L xs) (hL : L ≤ 3072) (hRt : (kMe k).sig.returnType = some .boolean) (q : kx_end k K0 601024 7293034) : ∀ (n m : Nat) (A : Nat → Nat) (s : PS), Bd s → RLx s → FEQ s → iI s 89 = 1 → iI s 12 ≤ 8 → iI s 0 = iI s 74 → iI s 9 = iI s 90 → (L : Int) ≤ 6 * ((m + n : Nat) : Int) + 5 → m ≤ 512 → WS k 23 [(0, .ref q1), (1, .ref (A 0)), (2, .ref (A 179)), (3, .ref (A 517)), (4, .int (Int32.ofInt (6 * (m : Int))))] [] (Wd A dT s) (518 + 29 * m) (23524 + 222 * m) := by
  intro n
  induction n with
  | zero =>
    intro m A s I jR jFEQ p1 p2 p3 p4 hn hm
    refine z_load X (x := (6 * (m : Int))) (show cdA 350 23 = some (.iload 4, 2, 0, 0, 0) from rfl) (List.Mem.tail _ (List.Mem.tail _ (List.Mem.tail _ (List.Mem.tail _ (List.Mem.head _))))) ?_
    refine z_aload_n X (x := q1) (show cdA 350 25 = some (.aload_n 0, 1, 0, 0, 0) from rfl) (List.Mem.head _) ?_
    refine z_slen X S hL (show cdA 350 26 = some (.arraylength, 1, 0, 0, 0) from rfl) ?_
    refine z_bipush X (show cdA 350 27 = some (.bipush 6, 2, 0, 0, 6) from rfl) ?_
    refine z_sub X (show cdA 350 29 = some (.isub, 1, 0, 0, 0) from rfl) ?_
    refine z_icmp_gt X (t := 1900) (show cdA 350 30 = some (.if_icmp .gt 1870, 3, 4, 0, 0) from rfl) (by decide) ⟨by omega, by omega⟩ ⟨by omega, by omega⟩ (fun g1 => ?_) (fun g1 => ?_)
    ·
      refine z_const X (show cdA 350 1900 = some (.iconst 1, 1, 0, 0, 0) from rfl) ?_
      exact w_iret X.1 q hRt (nar_ret (Or.inr rfl)) (ax_d X (show cdA 350 1901 = some (.ireturn, 1, 0, 0, 0) from rfl)) (by omega) (by omega) rfl
    ·
      exfalso
      omega
  | succ n ih =>
    intro m A s I jR jFEQ p1 p2 p3 p4 hn hm
    refine z_load X (x := (6 * (m : Int))) (show cdA 350 23 = some (.iload 4, 2, 0, 0, 0) from rfl) (List.Mem.tail _ (List.Mem.tail _ (List.Mem.tail _ (List.Mem.tail _ (List.Mem.head _))))) ?_
    refine z_aload_n X (x := q1) (show cdA 350 25 = some (.aload_n 0, 1, 0, 0, 0) from rfl) (List.Mem.head _) ?_
    refine z_slen X S hL (show cdA 350 26 = some (.arraylength, 1, 0, 0, 0) from rfl) ?_
    refine z_bipush X (show cdA 350 27 = some (.bipush 6, 2, 0, 0, 6) from rfl) ?_
    refine z_sub X (show cdA 350 29 = some (.isub, 1, 0, 0, 0) from rfl) ?_
    refine z_icmp_gt X (t := 1900) (show cdA 350 30 = some (.if_icmp .gt 1870, 3, 4, 0, 0) from rfl) (by decide) ⟨by omega, by omega⟩ ⟨by omega, by omega⟩ (fun g1 => ?_) (fun g1 => ?_)
    ·
      refine z_const X (show cdA 350 1900 = some (.iconst 1, 1, 0, 0, 0) from rfl) ?_
      exact w_iret X.1 q hRt (nar_ret (Or.inr rfl)) (ax_d X (show cdA 350 1901 = some (.ireturn, 1, 0, 0, 0) from rfl)) (by omega) (by omega) rfl
    ·
      have hk : ∀ (A : Nat → Nat) (t : PS), Bd t → RLx t → FEQ t → iI t 89 = 1 → iI t 12 ≤ 8 → iI t 0 = iI t 74 → iI t 9 = iI t 90 → WS k 1894 [(0, .ref q1), (1, .ref (A 0)), (2, .ref (A 179)), (3, .ref (A 517)), (4, .int (Int32.ofInt (6 * (m : Int))))] [] (Wd A dT t) (518 + 29 * m + 29) (23524 + 222 * m + 222) := by
        intro A t I jR jFEQ p1 p2 p3 p4
        refine z_inc X (x := (6 * (m : Int))) (lv' := [(4, .int (Int32.ofInt (6 * (m : Int) + 6))), (0, .ref q1), (1, .ref (A 0)), (2, .ref (A 179)), (3, .ref (A 517))]) (show cdA 350 1894 = some (.iinc 4 6, 3, 0, 0, 0) from rfl) (by decide) (List.Mem.tail _ (List.Mem.tail _ (List.Mem.tail _ (List.Mem.tail _ (List.Mem.head _))))) (fun _ h => h) ?_
        refine z_goto X (t := 23) (show cdA 350 1897 = some (.goto (-1874), 3, 0, 0, 0) from rfl) (by decide) ?_
        have e6 : (6 * (m : Int) + 6) = 6 * ((m + 1 : Nat) : Int) := by omega
        rw [e6]
        refine WS_lv (lv := [(0, .ref q1), (1, .ref (A 0)), (2, .ref (A 179)), (3, .ref (A 517)), (4, .int (Int32.ofInt (6 * ((m + 1 : Nat) : Int))))]) (List.forall_mem_cons.mpr ⟨(List.Mem.tail _ (List.Mem.head _)), (List.forall_mem_cons.mpr ⟨(List.Mem.tail _ (List.Mem.tail _ (List.Mem.head _))), (List.forall_mem_cons.mpr ⟨(List.Mem.tail _ (List.Mem.tail _ (List.Mem.tail _ (List.Mem.head _)))), (List.forall_mem_cons.mpr ⟨(List.Mem.tail _ (List.Mem.tail _ (List.Mem.tail _ (List.Mem.tail _ (List.Mem.head _))))), (List.forall_mem_cons.mpr ⟨(List.Mem.head _), (fun q h => absurd h List.not_mem_nil)⟩)⟩)⟩)⟩)⟩) ?_
        refine w_widen (ce' := 518 + 29 * (m + 1)) (sl' := 23524 + 222 * (m + 1)) (by omega) (by omega) ?_
        exact ih (m + 1) A t I jR jFEQ p1 p2 p3 p4 (by omega) (by omega)
      refine z_aload_n X (x := q1) (show cdA 350 33 = some (.aload_n 0, 1, 0, 0, 0) from rfl) (List.Mem.head _) ?_
      refine z_load X (x := (6 * (m : Int))) (show cdA 350 34 = some (.iload 4, 2, 0, 0, 0) from rfl) (List.Mem.tail _ (List.Mem.tail _ (List.Mem.tail _ (List.Mem.tail _ (List.Mem.head _))))) ?_
      refine z_sld X S hL (show cdA 350 36 = some (.iaload, 1, 0, 0, 0) from rfl) (show 0 ≤ (6 * (m : Int)) ∧ (6 * (m : Int)) < (L : Int) by omega) ?_
      have sr2 : rng (sc xs (6 * (m : Int))) := sc_rng
      refine z_bipush X (show cdA 350 37 = some (.bipush 63, 2, 0, 0, 63) from rfl) ?_
      refine z_andm X (show cdA 350 39 = some (.iand, 1, 0, 0, 0) from rfl) (by decide) (by decide) (fun y3 hy3 gy3 => ?_)
      rcases (show y3 = 0 ∨ y3 = 1 ∨ y3 = 2 ∨ y3 = 3 ∨ y3 = 4 ∨ y3 = 5 ∨ y3 = 6 ∨ y3 = 7 ∨ y3 = 8 ∨ y3 = 9 ∨ y3 = 10 ∨ y3 = 11 ∨ y3 = 12 ∨ y3 = 13 ∨ y3 = 14 ∨ y3 = 15 ∨ y3 = 16 ∨ y3 = 17 ∨ y3 = 18 ∨ y3 = 19 ∨ y3 = 20 ∨ y3 = 21 ∨ y3 = 22 ∨ y3 = 23 ∨ y3 = 24 ∨ y3 = 25 ∨ y3 = 26 ∨ y3 = 27 ∨ y3 = 28 ∨ y3 = 29 ∨ y3 = 30 ∨ y3 = 31 ∨ y3 = 32 ∨ y3 = 33 ∨ y3 = 34 ∨ y3 = 35 ∨ y3 = 36 ∨ y3 = 37 ∨ y3 = 38 ∨ y3 = 39 ∨ y3 = 40 ∨ y3 = 41 ∨ y3 = 42 ∨ y3 = 43 ∨ (y3 < 0 ∨ 43 < y3) by omega) with gs | gs | gs | gs | gs | gs | gs | gs | gs | gs | gs | gs | gs | gs | gs | gs | gs | gs | gs | gs | gs | gs | gs | gs | gs | gs | gs | gs | gs | gs | gs | gs | gs | gs | gs | gs | gs | gs | gs | gs | gs | gs | gs | gs | gs
      ·
        rw [gs]
        refine w_tabIn X.1 (dflt := 1854) (lo := 0) (hi := 43) (offs := #[192, 265, 293, 349, 362, 402, 463, 512, 552, 592, 644, 684, 736, 776, 804, 844, 872, 900, 928, 941, 954, 982, 1010, 1038, 1078, 1091, 1119, 1159, 1187, 1227, 1267, 1307, 1359, 1399, 1427, 1483, 1547, 1627, 1655, 1735, 1775, 1803, 1816, 1829]) (len := 192) (off := 192) (t := 232) (ax_d X (show cdA 350 40 = some (.tableswitch 1854 0 43 #[192, 265, 293, 349, 362, 402, 463, 512, 552, 592, 644, 684, 736, 776, 804, 844, 872, 900, 928, 941, 954, 982, 1010, 1038, 1078, 1091, 1119, 1159, 1187, 1227, 1267, 1307, 1359, 1399, 1427, 1483, 1547, 1627, 1655, 1735, 1775, 1803, 1816, 1829], 192, 0, 0, 0) from rfl)) (by decide) (by decide) (by decide) (by decide) ?_
        exact lc_0 G GR SF GT GW X E S hL I jR jFEQ p1 p2 p3 p4 (by omega) (by omega) (by omega) hk
      ·
        rw [gs]
        refine w_tabIn X.1 (dflt := 1854) (lo := 0) (hi := 43) (offs := #[192, 265, 293, 349, 362, 402, 463, 512, 552, 592, 644, 684, 736, 776, 804, 844, 872, 900, 928, 941, 954, 982, 1010, 1038, 1078, 1091, 1119, 1159, 1187, 1227, 1267, 1307, 1359, 1399, 1427, 1483, 1547, 1627, 1655, 1735, 1775, 1803, 1816, 1829]) (len := 192) (off := 265) (t := 305) (ax_d X (show cdA 350 40 = some (.tableswitch 1854 0 43 #[192, 265, 293, 349, 362, 402, 463, 512, 552, 592, 644, 684, 736, 776, 804, 844, 872, 900, 928, 941, 954, 982, 1010, 1038, 1078, 1091, 1119, 1159, 1187, 1227, 1267, 1307, 1359, 1399, 1427, 1483, 1547, 1627, 1655, 1735, 1775, 1803, 1816, 1829], 192, 0, 0, 0) from rfl)) (by decide) (by decide) (by decide) (by decide) ?_
        exact lc_1 G GR SF GT GW X E S hL I jR jFEQ p1 p2 p3 p4 (by omega) (by omega) (by omega) hk
      ·
        rw [gs]
        refine w_tabIn X.1 (dflt := 1854) (lo := 0) (hi := 43) (offs := #[192, 265, 293, 349, 362, 402, 463, 512, 552, 592, 644, 684, 736, 776, 804, 844, 872, 900, 928, 941, 954, 982, 1010, 1038, 1078, 1091, 1119, 1159, 1187, 1227, 1267, 1307, 1359, 1399, 1427, 1483, 1547, 1627, 1655, 1735, 1775, 1803, 1816, 1829]) (len := 192) (off := 293) (t := 333) (ax_d X (show cdA 350 40 = some (.tableswitch 1854 0 43 #[192, 265, 293, 349, 362, 402, 463, 512, 552, 592, 644, 684, 736, 776, 804, 844, 872, 900, 928, 941, 954, 982, 1010, 1038, 1078, 1091, 1119, 1159, 1187, 1227, 1267, 1307, 1359, 1399, 1427, 1483, 1547, 1627, 1655, 1735, 1775, 1803, 1816, 1829], 192, 0, 0, 0) from rfl)) (by decide) (by decide) (by decide) (by decide) ?_
        exact lc_2 G GR SF GT GW X E S hL I jR jFEQ p1 p2 p3 p4 (by omega) (by omega) (by omega) hk
      ·
        rw [gs]
        refine w_tabIn X.1 (dflt := 1854) (lo := 0) (hi := 43) (offs := #[192, 265, 293, 349, 362, 402, 463, 512, 552, 592, 644, 684, 736, 776, 804, 844, 872, 900, 928, 941, 954, 982, 1010, 1038, 1078, 1091, 1119, 1159, 1187, 1227, 1267, 1307, 1359, 1399, 1427, 1483, 1547, 1627, 1655, 1735, 1775, 1803, 1816, 1829]) (len := 192) (off := 349) (t := 389) (ax_d X (show cdA 350 40 = some (.tableswitch 1854 0 43 #[192, 265, 293, 349, 362, 402, 463, 512, 552, 592, 644, 684, 736, 776, 804, 844, 872, 900, 928, 941, 954, 982, 1010, 1038, 1078, 1091, 1119, 1159, 1187, 1227, 1267, 1307, 1359, 1399, 1427, 1483, 1547, 1627, 1655, 1735, 1775, 1803, 1816, 1829], 192, 0, 0, 0) from rfl)) (by decide) (by decide) (by decide) (by decide) ?_
        exact lc_3 G GR SF GT GW X E S hL I jR jFEQ p1 p2 p3 p4 (by omega) (by omega) (by omega) hk
      ·
        rw [gs]
        refine w_tabIn X.1 (dflt := 1854) (lo := 0) (hi := 43) (offs := #[192, 265, 293, 349, 362, 402, 463, 512, 552, 592, 644, 684, 736, 776, 804, 844, 872, 900, 928, 941, 954, 982, 1010, 1038, 1078, 1091, 1119, 1159, 1187, 1227, 1267, 1307, 1359, 1399, 1427, 1483, 1547, 1627, 1655, 1735, 1775, 1803, 1816, 1829]) (len := 192) (off := 362) (t := 402) (ax_d X (show cdA 350 40 = some (.tableswitch 1854 0 43 #[192, 265, 293, 349, 362, 402, 463, 512, 552, 592, 644, 684, 736, 776, 804, 844, 872, 900, 928, 941, 954, 982, 1010, 1038, 1078, 1091, 1119, 1159, 1187, 1227, 1267, 1307, 1359, 1399, 1427, 1483, 1547, 1627, 1655, 1735, 1775, 1803, 1816, 1829], 192, 0, 0, 0) from rfl)) (by decide) (by decide) (by decide) (by decide) ?_
        exact lc_4 G GR SF GT GW X E S hL I jR jFEQ p1 p2 p3 p4 (by omega) (by omega) (by omega) hk
      ·
        rw [gs]
        refine w_tabIn X.1 (dflt := 1854) (lo := 0) (hi := 43) (offs := #[192, 265, 293, 349, 362, 402, 463, 512, 552, 592, 644, 684, 736, 776, 804, 844, 872, 900, 928, 941, 954, 982, 1010, 1038, 1078, 1091, 1119, 1159, 1187, 1227, 1267, 1307, 1359, 1399, 1427, 1483, 1547, 1627, 1655, 1735, 1775, 1803, 1816, 1829]) (len := 192) (off := 402) (t := 442) (ax_d X (show cdA 350 40 = some (.tableswitch 1854 0 43 #[192, 265, 293, 349, 362, 402, 463, 512, 552, 592, 644, 684, 736, 776, 804, 844, 872, 900, 928, 941, 954, 982, 1010, 1038, 1078, 1091, 1119, 1159, 1187, 1227, 1267, 1307, 1359, 1399, 1427, 1483, 1547, 1627, 1655, 1735, 1775, 1803, 1816, 1829], 192, 0, 0, 0) from rfl)) (by decide) (by decide) (by decide) (by decide) ?_
        exact lc_5 G GR SF GT GW X E S hL I jR jFEQ p1 p2 p3 p4 (by omega) (by omega) (by omega) hk
      ·
        rw [gs]
        refine w_tabIn X.1 (dflt := 1854) (lo := 0) (hi := 43) (offs := #[192, 265, 293, 349, 362, 402, 463, 512, 552, 592, 644, 684, 736, 776, 804, 844, 872, 900, 928, 941, 954, 982, 1010, 1038, 1078, 1091, 1119, 1159, 1187, 1227, 1267, 1307, 1359, 1399, 1427, 1483, 1547, 1627, 1655, 1735, 1775, 1803, 1816, 1829]) (len := 192) (off := 463) (t := 503) (ax_d X (show cdA 350 40 = some (.tableswitch 1854 0 43 #[192, 265, 293, 349, 362, 402, 463, 512, 552, 592, 644, 684, 736, 776, 804, 844, 872, 900, 928, 941, 954, 982, 1010, 1038, 1078, 1091, 1119, 1159, 1187, 1227, 1267, 1307, 1359, 1399, 1427, 1483, 1547, 1627, 1655, 1735, 1775, 1803, 1816, 1829], 192, 0, 0, 0) from rfl)) (by decide) (by decide) (by decide) (by decide) ?_
        exact lc_6 G GR SF GT GW X E S hL I jR jFEQ p1 p2 p3 p4 (by omega) (by omega) (by omega) hk
      ·
        rw [gs]
        refine w_tabIn X.1 (dflt := 1854) (lo := 0) (hi := 43) (offs := #[192, 265, 293, 349, 362, 402, 463, 512, 552, 592, 644, 684, 736, 776, 804, 844, 872, 900, 928, 941, 954, 982, 1010, 1038, 1078, 1091, 1119, 1159, 1187, 1227, 1267, 1307, 1359, 1399, 1427, 1483, 1547, 1627, 1655, 1735, 1775, 1803, 1816, 1829]) (len := 192) (off := 512) (t := 552) (ax_d X (show cdA 350 40 = some (.tableswitch 1854 0 43 #[192, 265, 293, 349, 362, 402, 463, 512, 552, 592, 644, 684, 736, 776, 804, 844, 872, 900, 928, 941, 954, 982, 1010, 1038, 1078, 1091, 1119, 1159, 1187, 1227, 1267, 1307, 1359, 1399, 1427, 1483, 1547, 1627, 1655, 1735, 1775, 1803, 1816, 1829], 192, 0, 0, 0) from rfl)) (by decide) (by decide) (by decide) (by decide) ?_
        exact lc_7 G GR SF GT GW X E S hL I jR jFEQ p1 p2 p3 p4 (by omega) (by omega) (by omega) hk
      ·
        rw [gs]
        refine w_tabIn X.1 (dflt := 1854) (lo := 0) (hi := 43) (offs := #[192, 265, 293, 349, 362, 402, 463, 512, 552, 592, 644, 684, 736, 776, 804, 844, 872, 900, 928, 941, 954, 982, 1010, 1038, 1078, 1091, 1119, 1159, 1187, 1227, 1267, 1307, 1359, 1399, 1427, 1483, 1547, 1627, 1655, 1735, 1775, 1803, 1816, 1829]) (len := 192) (off := 552) (t := 592) (ax_d X (show cdA 350 40 = some (.tableswitch 1854 0 43 #[192, 265, 293, 349, 362, 402, 463, 512, 552, 592, 644, 684, 736, 776, 804, 844, 872, 900, 928, 941, 954, 982, 1010, 1038, 1078, 1091, 1119, 1159, 1187, 1227, 1267, 1307, 1359, 1399, 1427, 1483, 1547, 1627, 1655, 1735, 1775, 1803, 1816, 1829], 192, 0, 0, 0) from rfl)) (by decide) (by decide) (by decide) (by decide) ?_
        exact lc_8 G GR SF GT GW X E S hL I jR jFEQ p1 p2 p3 p4 (by omega) (by omega) (by omega) hk
      ·
        rw [gs]
        refine w_tabIn X.1 (dflt := 1854) (lo := 0) (hi := 43) (offs := #[192, 265, 293, 349, 362, 402, 463, 512, 552, 592, 644, 684, 736, 776, 804, 844, 872, 900, 928, 941, 954, 982, 1010, 1038, 1078, 1091, 1119, 1159, 1187, 1227, 1267, 1307, 1359, 1399, 1427, 1483, 1547, 1627, 1655, 1735, 1775, 1803, 1816, 1829]) (len := 192) (off := 592) (t := 632) (ax_d X (show cdA 350 40 = some (.tableswitch 1854 0 43 #[192, 265, 293, 349, 362, 402, 463, 512, 552, 592, 644, 684, 736, 776, 804, 844, 872, 900, 928, 941, 954, 982, 1010, 1038, 1078, 1091, 1119, 1159, 1187, 1227, 1267, 1307, 1359, 1399, 1427, 1483, 1547, 1627, 1655, 1735, 1775, 1803, 1816, 1829], 192, 0, 0, 0) from rfl)) (by decide) (by decide) (by decide) (by decide) ?_
        exact lc_9 G GR SF GT GW X E S hL I jR jFEQ p1 p2 p3 p4 (by omega) (by omega) (by omega) hk
      ·
        rw [gs]
        refine w_tabIn X.1 (dflt := 1854) (lo := 0) (hi := 43) (offs := #[192, 265, 293, 349, 362, 402, 463, 512, 552, 592, 644, 684, 736, 776, 804, 844, 872, 900, 928, 941, 954, 982, 1010, 1038, 1078, 1091, 1119, 1159, 1187, 1227, 1267, 1307, 1359, 1399, 1427, 1483, 1547, 1627, 1655, 1735, 1775, 1803, 1816, 1829]) (len := 192) (off := 644) (t := 684) (ax_d X (show cdA 350 40 = some (.tableswitch 1854 0 43 #[192, 265, 293, 349, 362, 402, 463, 512, 552, 592, 644, 684, 736, 776, 804, 844, 872, 900, 928, 941, 954, 982, 1010, 1038, 1078, 1091, 1119, 1159, 1187, 1227, 1267, 1307, 1359, 1399, 1427, 1483, 1547, 1627, 1655, 1735, 1775, 1803, 1816, 1829], 192, 0, 0, 0) from rfl)) (by decide) (by decide) (by decide) (by decide) ?_
        exact lc_10 G GR SF GT GW X E S hL I jR jFEQ p1 p2 p3 p4 (by omega) (by omega) (by omega) hk
      ·
        rw [gs]
        refine w_tabIn X.1 (dflt := 1854) (lo := 0) (hi := 43) (offs := #[192, 265, 293, 349, 362, 402, 463, 512, 552, 592, 644, 684, 736, 776, 804, 844, 872, 900, 928, 941, 954, 982, 1010, 1038, 1078, 1091, 1119, 1159, 1187, 1227, 1267, 1307, 1359, 1399, 1427, 1483, 1547, 1627, 1655, 1735, 1775, 1803, 1816, 1829]) (len := 192) (off := 684) (t := 724) (ax_d X (show cdA 350 40 = some (.tableswitch 1854 0 43 #[192, 265, 293, 349, 362, 402, 463, 512, 552, 592, 644, 684, 736, 776, 804, 844, 872, 900, 928, 941, 954, 982, 1010, 1038, 1078, 1091, 1119, 1159, 1187, 1227, 1267, 1307, 1359, 1399, 1427, 1483, 1547, 1627, 1655, 1735, 1775, 1803, 1816, 1829], 192, 0, 0, 0) from rfl)) (by decide) (by decide) (by decide) (by decide) ?_
        exact lc_11 G GR SF GT GW X E S hL I jR jFEQ p1 p2 p3 p4 (by omega) (by omega) (by omega) hk
      ·
        rw [gs]
        refine w_tabIn X.1 (dflt := 1854) (lo := 0) (hi := 43) (offs := #[192, 265, 293, 349, 362, 402, 463, 512, 552, 592, 644, 684, 736, 776, 804, 844, 872, 900, 928, 941, 954, 982, 1010, 1038, 1078, 1091, 1119, 1159, 1187, 1227, 1267, 1307, 1359, 1399, 1427, 1483, 1547, 1627, 1655, 1735, 1775, 1803, 1816, 1829]) (len := 192) (off := 736) (t := 776) (ax_d X (show cdA 350 40 = some (.tableswitch 1854 0 43 #[192, 265, 293, 349, 362, 402, 463, 512, 552, 592, 644, 684, 736, 776, 804, 844, 872, 900, 928, 941, 954, 982, 1010, 1038, 1078, 1091, 1119, 1159, 1187, 1227, 1267, 1307, 1359, 1399, 1427, 1483, 1547, 1627, 1655, 1735, 1775, 1803, 1816, 1829], 192, 0, 0, 0) from rfl)) (by decide) (by decide) (by decide) (by decide) ?_
        exact lc_12 G GR SF GT GW X E S hL I jR jFEQ p1 p2 p3 p4 (by omega) (by omega) (by omega) hk
      ·
        rw [gs]
        refine w_tabIn X.1 (dflt := 1854) (lo := 0) (hi := 43) (offs := #[192, 265, 293, 349, 362, 402, 463, 512, 552, 592, 644, 684, 736, 776, 804, 844, 872, 900, 928, 941, 954, 982, 1010, 1038, 1078, 1091, 1119, 1159, 1187, 1227, 1267, 1307, 1359, 1399, 1427, 1483, 1547, 1627, 1655, 1735, 1775, 1803, 1816, 1829]) (len := 192) (off := 776) (t := 816) (ax_d X (show cdA 350 40 = some (.tableswitch 1854 0 43 #[192, 265, 293, 349, 362, 402, 463, 512, 552, 592, 644, 684, 736, 776, 804, 844, 872, 900, 928, 941, 954, 982, 1010, 1038, 1078, 1091, 1119, 1159, 1187, 1227, 1267, 1307, 1359, 1399, 1427, 1483, 1547, 1627, 1655, 1735, 1775, 1803, 1816, 1829], 192, 0, 0, 0) from rfl)) (by decide) (by decide) (by decide) (by decide) ?_
        exact lc_13 G GR SF GT GW X E S hL I jR jFEQ p1 p2 p3 p4 (by omega) (by omega) (by omega) hk
      ·
        rw [gs]
        refine w_tabIn X.1 (dflt := 1854) (lo := 0) (hi := 43) (offs := #[192, 265, 293, 349, 362, 402, 463, 512, 552, 592, 644, 684, 736, 776, 804, 844, 872, 900, 928, 941, 954, 982, 1010, 1038, 1078, 1091, 1119, 1159, 1187, 1227, 1267, 1307, 1359, 1399, 1427, 1483, 1547, 1627, 1655, 1735, 1775, 1803, 1816, 1829]) (len := 192) (off := 804) (t := 844) (ax_d X (show cdA 350 40 = some (.tableswitch 1854 0 43 #[192, 265, 293, 349, 362, 402, 463, 512, 552, 592, 644, 684, 736, 776, 804, 844, 872, 900, 928, 941, 954, 982, 1010, 1038, 1078, 1091, 1119, 1159, 1187, 1227, 1267, 1307, 1359, 1399, 1427, 1483, 1547, 1627, 1655, 1735, 1775, 1803, 1816, 1829], 192, 0, 0, 0) from rfl)) (by decide) (by decide) (by decide) (by decide) ?_
        exact lc_14 G GR SF GT GW X E S hL I jR jFEQ p1 p2 p3 p4 (by omega) (by omega) (by omega) hk
      ·
        rw [gs]
        refine w_tabIn X.1 (dflt := 1854) (lo := 0) (hi := 43) (offs := #[192, 265, 293, 349, 362, 402, 463, 512, 552, 592, 644, 684, 736, 776, 804, 844, 872, 900, 928, 941, 954, 982, 1010, 1038, 1078, 1091, 1119, 1159, 1187, 1227, 1267, 1307, 1359, 1399, 1427, 1483, 1547, 1627, 1655, 1735, 1775, 1803, 1816, 1829]) (len := 192) (off := 844) (t := 884) (ax_d X (show cdA 350 40 = some (.tableswitch 1854 0 43 #[192, 265, 293, 349, 362, 402, 463, 512, 552, 592, 644, 684, 736, 776, 804, 844, 872, 900, 928, 941, 954, 982, 1010, 1038, 1078, 1091, 1119, 1159, 1187, 1227, 1267, 1307, 1359, 1399, 1427, 1483, 1547, 1627, 1655, 1735, 1775, 1803, 1816, 1829], 192, 0, 0, 0) from rfl)) (by decide) (by decide) (by decide) (by decide) ?_
        exact lc_15 G GR SF GT GW X E S hL I jR jFEQ p1 p2 p3 p4 (by omega) (by omega) (by omega) hk
      ·
        rw [gs]
        refine w_tabIn X.1 (dflt := 1854) (lo := 0) (hi := 43) (offs := #[192, 265, 293, 349, 362, 402, 463, 512, 552, 592, 644, 684, 736, 776, 804, 844, 872, 900, 928, 941, 954, 982, 1010, 1038, 1078, 1091, 1119, 1159, 1187, 1227, 1267, 1307, 1359, 1399, 1427, 1483, 1547, 1627, 1655, 1735, 1775, 1803, 1816, 1829]) (len := 192) (off := 872) (t := 912) (ax_d X (show cdA 350 40 = some (.tableswitch 1854 0 43 #[192, 265, 293, 349, 362, 402, 463, 512, 552, 592, 644, 684, 736, 776, 804, 844, 872, 900, 928, 941, 954, 982, 1010, 1038, 1078, 1091, 1119, 1159, 1187, 1227, 1267, 1307, 1359, 1399, 1427, 1483, 1547, 1627, 1655, 1735, 1775, 1803, 1816, 1829], 192, 0, 0, 0) from rfl)) (by decide) (by decide) (by decide) (by decide) ?_
        exact lc_16 G GR SF GT GW X E S hL I jR jFEQ p1 p2 p3 p4 (by omega) (by omega) (by omega) hk
      ·
        rw [gs]
        refine w_tabIn X.1 (dflt := 1854) (lo := 0) (hi := 43) (offs := #[192, 265, 293, 349, 362, 402, 463, 512, 552, 592, 644, 684, 736, 776, 804, 844, 872, 900, 928, 941, 954, 982, 1010, 1038, 1078, 1091, 1119, 1159, 1187, 1227, 1267, 1307, 1359, 1399, 1427, 1483, 1547, 1627, 1655, 1735, 1775, 1803, 1816, 1829]) (len := 192) (off := 900) (t := 940) (ax_d X (show cdA 350 40 = some (.tableswitch 1854 0 43 #[192, 265, 293, 349, 362, 402, 463, 512, 552, 592, 644, 684, 736, 776, 804, 844, 872, 900, 928, 941, 954, 982, 1010, 1038, 1078, 1091, 1119, 1159, 1187, 1227, 1267, 1307, 1359, 1399, 1427, 1483, 1547, 1627, 1655, 1735, 1775, 1803, 1816, 1829], 192, 0, 0, 0) from rfl)) (by decide) (by decide) (by decide) (by decide) ?_
        exact lc_17 G GR SF GT GW X E S hL I jR jFEQ p1 p2 p3 p4 (by omega) (by omega) (by omega) hk
      ·
        rw [gs]
        refine w_tabIn X.1 (dflt := 1854) (lo := 0) (hi := 43) (offs := #[192, 265, 293, 349, 362, 402, 463, 512, 552, 592, 644, 684, 736, 776, 804, 844, 872, 900, 928, 941, 954, 982, 1010, 1038, 1078, 1091, 1119, 1159, 1187, 1227, 1267, 1307, 1359, 1399, 1427, 1483, 1547, 1627, 1655, 1735, 1775, 1803, 1816, 1829]) (len := 192) (off := 928) (t := 968) (ax_d X (show cdA 350 40 = some (.tableswitch 1854 0 43 #[192, 265, 293, 349, 362, 402, 463, 512, 552, 592, 644, 684, 736, 776, 804, 844, 872, 900, 928, 941, 954, 982, 1010, 1038, 1078, 1091, 1119, 1159, 1187, 1227, 1267, 1307, 1359, 1399, 1427, 1483, 1547, 1627, 1655, 1735, 1775, 1803, 1816, 1829], 192, 0, 0, 0) from rfl)) (by decide) (by decide) (by decide) (by decide) ?_
        exact lc_18 G GR SF GT GW X E S hL I jR jFEQ p1 p2 p3 p4 (by omega) (by omega) (by omega) hk
      ·
        rw [gs]
        refine w_tabIn X.1 (dflt := 1854) (lo := 0) (hi := 43) (offs := #[192, 265, 293, 349, 362, 402, 463, 512, 552, 592, 644, 684, 736, 776, 804, 844, 872, 900, 928, 941, 954, 982, 1010, 1038, 1078, 1091, 1119, 1159, 1187, 1227, 1267, 1307, 1359, 1399, 1427, 1483, 1547, 1627, 1655, 1735, 1775, 1803, 1816, 1829]) (len := 192) (off := 941) (t := 981) (ax_d X (show cdA 350 40 = some (.tableswitch 1854 0 43 #[192, 265, 293, 349, 362, 402, 463, 512, 552, 592, 644, 684, 736, 776, 804, 844, 872, 900, 928, 941, 954, 982, 1010, 1038, 1078, 1091, 1119, 1159, 1187, 1227, 1267, 1307, 1359, 1399, 1427, 1483, 1547, 1627, 1655, 1735, 1775, 1803, 1816, 1829], 192, 0, 0, 0) from rfl)) (by decide) (by decide) (by decide) (by decide) ?_
        exact lc_19 G GR SF GT GW X E S hL I jR jFEQ p1 p2 p3 p4 (by omega) (by omega) (by omega) hk
      ·
        rw [gs]
        refine w_tabIn X.1 (dflt := 1854) (lo := 0) (hi := 43) (offs := #[192, 265, 293, 349, 362, 402, 463, 512, 552, 592, 644, 684, 736, 776, 804, 844, 872, 900, 928, 941, 954, 982, 1010, 1038, 1078, 1091, 1119, 1159, 1187, 1227, 1267, 1307, 1359, 1399, 1427, 1483, 1547, 1627, 1655, 1735, 1775, 1803, 1816, 1829]) (len := 192) (off := 954) (t := 994) (ax_d X (show cdA 350 40 = some (.tableswitch 1854 0 43 #[192, 265, 293, 349, 362, 402, 463, 512, 552, 592, 644, 684, 736, 776, 804, 844, 872, 900, 928, 941, 954, 982, 1010, 1038, 1078, 1091, 1119, 1159, 1187, 1227, 1267, 1307, 1359, 1399, 1427, 1483, 1547, 1627, 1655, 1735, 1775, 1803, 1816, 1829], 192, 0, 0, 0) from rfl)) (by decide) (by decide) (by decide) (by decide) ?_
        exact lc_20 G GR SF GT GW X E S hL I jR jFEQ p1 p2 p3 p4 (by omega) (by omega) (by omega) hk
      ·
        rw [gs]
        refine w_tabIn X.1 (dflt := 1854) (lo := 0) (hi := 43) (offs := #[192, 265, 293, 349, 362, 402, 463, 512, 552, 592, 644, 684, 736, 776, 804, 844, 872, 900, 928, 941, 954, 982, 1010, 1038, 1078, 1091, 1119, 1159, 1187, 1227, 1267, 1307, 1359, 1399, 1427, 1483, 1547, 1627, 1655, 1735, 1775, 1803, 1816, 1829]) (len := 192) (off := 982) (t := 1022) (ax_d X (show cdA 350 40 = some (.tableswitch 1854 0 43 #[192, 265, 293, 349, 362, 402, 463, 512, 552, 592, 644, 684, 736, 776, 804, 844, 872, 900, 928, 941, 954, 982, 1010, 1038, 1078, 1091, 1119, 1159, 1187, 1227, 1267, 1307, 1359, 1399, 1427, 1483, 1547, 1627, 1655, 1735, 1775, 1803, 1816, 1829], 192, 0, 0, 0) from rfl)) (by decide) (by decide) (by decide) (by decide) ?_
        exact lc_21 G GR SF GT GW X E S hL I jR jFEQ p1 p2 p3 p4 (by omega) (by omega) (by omega) hk
      ·
        rw [gs]
        refine w_tabIn X.1 (dflt := 1854) (lo := 0) (hi := 43) (offs := #[192, 265, 293, 349, 362, 402, 463, 512, 552, 592, 644, 684, 736, 776, 804, 844, 872, 900, 928, 941, 954, 982, 1010, 1038, 1078, 1091, 1119, 1159, 1187, 1227, 1267, 1307, 1359, 1399, 1427, 1483, 1547, 1627, 1655, 1735, 1775, 1803, 1816, 1829]) (len := 192) (off := 1010) (t := 1050) (ax_d X (show cdA 350 40 = some (.tableswitch 1854 0 43 #[192, 265, 293, 349, 362, 402, 463, 512, 552, 592, 644, 684, 736, 776, 804, 844, 872, 900, 928, 941, 954, 982, 1010, 1038, 1078, 1091, 1119, 1159, 1187, 1227, 1267, 1307, 1359, 1399, 1427, 1483, 1547, 1627, 1655, 1735, 1775, 1803, 1816, 1829], 192, 0, 0, 0) from rfl)) (by decide) (by decide) (by decide) (by decide) ?_
        exact lc_22 G GR SF GT GW X E S hL I jR jFEQ p1 p2 p3 p4 (by omega) (by omega) (by omega) hk
      ·
        rw [gs]
        refine w_tabIn X.1 (dflt := 1854) (lo := 0) (hi := 43) (offs := #[192, 265, 293, 349, 362, 402, 463, 512, 552, 592, 644, 684, 736, 776, 804, 844, 872, 900, 928, 941, 954, 982, 1010, 1038, 1078, 1091, 1119, 1159, 1187, 1227, 1267, 1307, 1359, 1399, 1427, 1483, 1547, 1627, 1655, 1735, 1775, 1803, 1816, 1829]) (len := 192) (off := 1038) (t := 1078) (ax_d X (show cdA 350 40 = some (.tableswitch 1854 0 43 #[192, 265, 293, 349, 362, 402, 463, 512, 552, 592, 644, 684, 736, 776, 804, 844, 872, 900, 928, 941, 954, 982, 1010, 1038, 1078, 1091, 1119, 1159, 1187, 1227, 1267, 1307, 1359, 1399, 1427, 1483, 1547, 1627, 1655, 1735, 1775, 1803, 1816, 1829], 192, 0, 0, 0) from rfl)) (by decide) (by decide) (by decide) (by decide) ?_
        exact lc_23 G GR SF GT GW X E S hL I jR jFEQ p1 p2 p3 p4 (by omega) (by omega) (by omega) hk
      ·
        rw [gs]
        refine w_tabIn X.1 (dflt := 1854) (lo := 0) (hi := 43) (offs := #[192, 265, 293, 349, 362, 402, 463, 512, 552, 592, 644, 684, 736, 776, 804, 844, 872, 900, 928, 941, 954, 982, 1010, 1038, 1078, 1091, 1119, 1159, 1187, 1227, 1267, 1307, 1359, 1399, 1427, 1483, 1547, 1627, 1655, 1735, 1775, 1803, 1816, 1829]) (len := 192) (off := 1078) (t := 1118) (ax_d X (show cdA 350 40 = some (.tableswitch 1854 0 43 #[192, 265, 293, 349, 362, 402, 463, 512, 552, 592, 644, 684, 736, 776, 804, 844, 872, 900, 928, 941, 954, 982, 1010, 1038, 1078, 1091, 1119, 1159, 1187, 1227, 1267, 1307, 1359, 1399, 1427, 1483, 1547, 1627, 1655, 1735, 1775, 1803, 1816, 1829], 192, 0, 0, 0) from rfl)) (by decide) (by decide) (by decide) (by decide) ?_
        exact lc_24 G GR SF GT GW X E S hL I jR jFEQ p1 p2 p3 p4 (by omega) (by omega) (by omega) hk
      ·
        rw [gs]
        refine w_tabIn X.1 (dflt := 1854) (lo := 0) (hi := 43) (offs := #[192, 265, 293, 349, 362, 402, 463, 512, 552, 592, 644, 684, 736, 776, 804, 844, 872, 900, 928, 941, 954, 982, 1010, 1038, 1078, 1091, 1119, 1159, 1187, 1227, 1267, 1307, 1359, 1399, 1427, 1483, 1547, 1627, 1655, 1735, 1775, 1803, 1816, 1829]) (len := 192) (off := 1091) (t := 1131) (ax_d X (show cdA 350 40 = some (.tableswitch 1854 0 43 #[192, 265, 293, 349, 362, 402, 463, 512, 552, 592, 644, 684, 736, 776, 804, 844, 872, 900, 928, 941, 954, 982, 1010, 1038, 1078, 1091, 1119, 1159, 1187, 1227, 1267, 1307, 1359, 1399, 1427, 1483, 1547, 1627, 1655, 1735, 1775, 1803, 1816, 1829], 192, 0, 0, 0) from rfl)) (by decide) (by decide) (by decide) (by decide) ?_
        exact lc_25 G GR SF GT GW X E S hL I jR jFEQ p1 p2 p3 p4 (by omega) (by omega) (by omega) hk
      ·
        rw [gs]
        refine w_tabIn X.1 (dflt := 1854) (lo := 0) (hi := 43) (offs := #[192, 265, 293, 349, 362, 402, 463, 512, 552, 592, 644, 684, 736, 776, 804, 844, 872, 900, 928, 941, 954, 982, 1010, 1038, 1078, 1091, 1119, 1159, 1187, 1227, 1267, 1307, 1359, 1399, 1427, 1483, 1547, 1627, 1655, 1735, 1775, 1803, 1816, 1829]) (len := 192) (off := 1119) (t := 1159) (ax_d X (show cdA 350 40 = some (.tableswitch 1854 0 43 #[192, 265, 293, 349, 362, 402, 463, 512, 552, 592, 644, 684, 736, 776, 804, 844, 872, 900, 928, 941, 954, 982, 1010, 1038, 1078, 1091, 1119, 1159, 1187, 1227, 1267, 1307, 1359, 1399, 1427, 1483, 1547, 1627, 1655, 1735, 1775, 1803, 1816, 1829], 192, 0, 0, 0) from rfl)) (by decide) (by decide) (by decide) (by decide) ?_
        exact lc_26 G GR SF GT GW X E S hL I jR jFEQ p1 p2 p3 p4 (by omega) (by omega) (by omega) hk
      ·
        rw [gs]
        refine w_tabIn X.1 (dflt := 1854) (lo := 0) (hi := 43) (offs := #[192, 265, 293, 349, 362, 402, 463, 512, 552, 592, 644, 684, 736, 776, 804, 844, 872, 900, 928, 941, 954, 982, 1010, 1038, 1078, 1091, 1119, 1159, 1187, 1227, 1267, 1307, 1359, 1399, 1427, 1483, 1547, 1627, 1655, 1735, 1775, 1803, 1816, 1829]) (len := 192) (off := 1159) (t := 1199) (ax_d X (show cdA 350 40 = some (.tableswitch 1854 0 43 #[192, 265, 293, 349, 362, 402, 463, 512, 552, 592, 644, 684, 736, 776, 804, 844, 872, 900, 928, 941, 954, 982, 1010, 1038, 1078, 1091, 1119, 1159, 1187, 1227, 1267, 1307, 1359, 1399, 1427, 1483, 1547, 1627, 1655, 1735, 1775, 1803, 1816, 1829], 192, 0, 0, 0) from rfl)) (by decide) (by decide) (by decide) (by decide) ?_
        exact lc_27 G GR SF GT GW X E S hL I jR jFEQ p1 p2 p3 p4 (by omega) (by omega) (by omega) hk
      ·
        rw [gs]
        refine w_tabIn X.1 (dflt := 1854) (lo := 0) (hi := 43) (offs := #[192, 265, 293, 349, 362, 402, 463, 512, 552, 592, 644, 684, 736, 776, 804, 844, 872, 900, 928, 941, 954, 982, 1010, 1038, 1078, 1091, 1119, 1159, 1187, 1227, 1267, 1307, 1359, 1399, 1427, 1483, 1547, 1627, 1655, 1735, 1775, 1803, 1816, 1829]) (len := 192) (off := 1187) (t := 1227) (ax_d X (show cdA 350 40 = some (.tableswitch 1854 0 43 #[192, 265, 293, 349, 362, 402, 463, 512, 552, 592, 644, 684, 736, 776, 804, 844, 872, 900, 928, 941, 954, 982, 1010, 1038, 1078, 1091, 1119, 1159, 1187, 1227, 1267, 1307, 1359, 1399, 1427, 1483, 1547, 1627, 1655, 1735, 1775, 1803, 1816, 1829], 192, 0, 0, 0) from rfl)) (by decide) (by decide) (by decide) (by decide) ?_
        exact lc_28 G GR SF GT GW X E S hL I jR jFEQ p1 p2 p3 p4 (by omega) (by omega) (by omega) hk
      ·
        rw [gs]
        refine w_tabIn X.1 (dflt := 1854) (lo := 0) (hi := 43) (offs := #[192, 265, 293, 349, 362, 402, 463, 512, 552, 592, 644, 684, 736, 776, 804, 844, 872, 900, 928, 941, 954, 982, 1010, 1038, 1078, 1091, 1119, 1159, 1187, 1227, 1267, 1307, 1359, 1399, 1427, 1483, 1547, 1627, 1655, 1735, 1775, 1803, 1816, 1829]) (len := 192) (off := 1227) (t := 1267) (ax_d X (show cdA 350 40 = some (.tableswitch 1854 0 43 #[192, 265, 293, 349, 362, 402, 463, 512, 552, 592, 644, 684, 736, 776, 804, 844, 872, 900, 928, 941, 954, 982, 1010, 1038, 1078, 1091, 1119, 1159, 1187, 1227, 1267, 1307, 1359, 1399, 1427, 1483, 1547, 1627, 1655, 1735, 1775, 1803, 1816, 1829], 192, 0, 0, 0) from rfl)) (by decide) (by decide) (by decide) (by decide) ?_
        exact lc_29 G GR SF GT GW X E S hL I jR jFEQ p1 p2 p3 p4 (by omega) (by omega) (by omega) hk
      ·
        rw [gs]
        refine w_tabIn X.1 (dflt := 1854) (lo := 0) (hi := 43) (offs := #[192, 265, 293, 349, 362, 402, 463, 512, 552, 592, 644, 684, 736, 776, 804, 844, 872, 900, 928, 941, 954, 982, 1010, 1038, 1078, 1091, 1119, 1159, 1187, 1227, 1267, 1307, 1359, 1399, 1427, 1483, 1547, 1627, 1655, 1735, 1775, 1803, 1816, 1829]) (len := 192) (off := 1267) (t := 1307) (ax_d X (show cdA 350 40 = some (.tableswitch 1854 0 43 #[192, 265, 293, 349, 362, 402, 463, 512, 552, 592, 644, 684, 736, 776, 804, 844, 872, 900, 928, 941, 954, 982, 1010, 1038, 1078, 1091, 1119, 1159, 1187, 1227, 1267, 1307, 1359, 1399, 1427, 1483, 1547, 1627, 1655, 1735, 1775, 1803, 1816, 1829], 192, 0, 0, 0) from rfl)) (by decide) (by decide) (by decide) (by decide) ?_
        exact lc_30 G GR SF GT GW X E S hL I jR jFEQ p1 p2 p3 p4 (by omega) (by omega) (by omega) hk
      ·
        rw [gs]
        refine w_tabIn X.1 (dflt := 1854) (lo := 0) (hi := 43) (offs := #[192, 265, 293, 349, 362, 402, 463, 512, 552, 592, 644, 684, 736, 776, 804, 844, 872, 900, 928, 941, 954, 982, 1010, 1038, 1078, 1091, 1119, 1159, 1187, 1227, 1267, 1307, 1359, 1399, 1427, 1483, 1547, 1627, 1655, 1735, 1775, 1803, 1816, 1829]) (len := 192) (off := 1307) (t := 1347) (ax_d X (show cdA 350 40 = some (.tableswitch 1854 0 43 #[192, 265, 293, 349, 362, 402, 463, 512, 552, 592, 644, 684, 736, 776, 804, 844, 872, 900, 928, 941, 954, 982, 1010, 1038, 1078, 1091, 1119, 1159, 1187, 1227, 1267, 1307, 1359, 1399, 1427, 1483, 1547, 1627, 1655, 1735, 1775, 1803, 1816, 1829], 192, 0, 0, 0) from rfl)) (by decide) (by decide) (by decide) (by decide) ?_
        exact lc_31 G GR SF GT GW X E S hL I jR jFEQ p1 p2 p3 p4 (by omega) (by omega) (by omega) hk
      ·
        rw [gs]
        refine w_tabIn X.1 (dflt := 1854) (lo := 0) (hi := 43) (offs := #[192, 265, 293, 349, 362, 402, 463, 512, 552, 592, 644, 684, 736, 776, 804, 844, 872, 900, 928, 941, 954, 982, 1010, 1038, 1078, 1091, 1119, 1159, 1187, 1227, 1267, 1307, 1359, 1399, 1427, 1483, 1547, 1627, 1655, 1735, 1775, 1803, 1816, 1829]) (len := 192) (off := 1359) (t := 1399) (ax_d X (show cdA 350 40 = some (.tableswitch 1854 0 43 #[192, 265, 293, 349, 362, 402, 463, 512, 552, 592, 644, 684, 736, 776, 804, 844, 872, 900, 928, 941, 954, 982, 1010, 1038, 1078, 1091, 1119, 1159, 1187, 1227, 1267, 1307, 1359, 1399, 1427, 1483, 1547, 1627, 1655, 1735, 1775, 1803, 1816, 1829], 192, 0, 0, 0) from rfl)) (by decide) (by decide) (by decide) (by decide) ?_
        exact lc_32 G GR SF GT GW X E S hL I jR jFEQ p1 p2 p3 p4 (by omega) (by omega) (by omega) hk
      ·
        rw [gs]
        refine w_tabIn X.1 (dflt := 1854) (lo := 0) (hi := 43) (offs := #[192, 265, 293, 349, 362, 402, 463, 512, 552, 592, 644, 684, 736, 776, 804, 844, 872, 900, 928, 941, 954, 982, 1010, 1038, 1078, 1091, 1119, 1159, 1187, 1227, 1267, 1307, 1359, 1399, 1427, 1483, 1547, 1627, 1655, 1735, 1775, 1803, 1816, 1829]) (len := 192) (off := 1399) (t := 1439) (ax_d X (show cdA 350 40 = some (.tableswitch 1854 0 43 #[192, 265, 293, 349, 362, 402, 463, 512, 552, 592, 644, 684, 736, 776, 804, 844, 872, 900, 928, 941, 954, 982, 1010, 1038, 1078, 1091, 1119, 1159, 1187, 1227, 1267, 1307, 1359, 1399, 1427, 1483, 1547, 1627, 1655, 1735, 1775, 1803, 1816, 1829], 192, 0, 0, 0) from rfl)) (by decide) (by decide) (by decide) (by decide) ?_
        exact lc_33 G GR SF GT GW X E S hL I jR jFEQ p1 p2 p3 p4 (by omega) (by omega) (by omega) hk
      ·
        rw [gs]
        refine w_tabIn X.1 (dflt := 1854) (lo := 0) (hi := 43) (offs := #[192, 265, 293, 349, 362, 402, 463, 512, 552, 592, 644, 684, 736, 776, 804, 844, 872, 900, 928, 941, 954, 982, 1010, 1038, 1078, 1091, 1119, 1159, 1187, 1227, 1267, 1307, 1359, 1399, 1427, 1483, 1547, 1627, 1655, 1735, 1775, 1803, 1816, 1829]) (len := 192) (off := 1427) (t := 1467) (ax_d X (show cdA 350 40 = some (.tableswitch 1854 0 43 #[192, 265, 293, 349, 362, 402, 463, 512, 552, 592, 644, 684, 736, 776, 804, 844, 872, 900, 928, 941, 954, 982, 1010, 1038, 1078, 1091, 1119, 1159, 1187, 1227, 1267, 1307, 1359, 1399, 1427, 1483, 1547, 1627, 1655, 1735, 1775, 1803, 1816, 1829], 192, 0, 0, 0) from rfl)) (by decide) (by decide) (by decide) (by decide) ?_
        exact lc_34 G GR SF GT GW X E S hL I jR jFEQ p1 p2 p3 p4 (by omega) (by omega) (by omega) hk
      ·
        rw [gs]
        refine w_tabIn X.1 (dflt := 1854) (lo := 0) (hi := 43) (offs := #[192, 265, 293, 349, 362, 402, 463, 512, 552, 592, 644, 684, 736, 776, 804, 844, 872, 900, 928, 941, 954, 982, 1010, 1038, 1078, 1091, 1119, 1159, 1187, 1227, 1267, 1307, 1359, 1399, 1427, 1483, 1547, 1627, 1655, 1735, 1775, 1803, 1816, 1829]) (len := 192) (off := 1483) (t := 1523) (ax_d X (show cdA 350 40 = some (.tableswitch 1854 0 43 #[192, 265, 293, 349, 362, 402, 463, 512, 552, 592, 644, 684, 736, 776, 804, 844, 872, 900, 928, 941, 954, 982, 1010, 1038, 1078, 1091, 1119, 1159, 1187, 1227, 1267, 1307, 1359, 1399, 1427, 1483, 1547, 1627, 1655, 1735, 1775, 1803, 1816, 1829], 192, 0, 0, 0) from rfl)) (by decide) (by decide) (by decide) (by decide) ?_
        exact lc_35 G GR SF GT GW X E S hL I jR jFEQ p1 p2 p3 p4 (by omega) (by omega) (by omega) hk
      ·
        rw [gs]
        refine w_tabIn X.1 (dflt := 1854) (lo := 0) (hi := 43) (offs := #[192, 265, 293, 349, 362, 402, 463, 512, 552, 592, 644, 684, 736, 776, 804, 844, 872, 900, 928, 941, 954, 982, 1010, 1038, 1078, 1091, 1119, 1159, 1187, 1227, 1267, 1307, 1359, 1399, 1427, 1483, 1547, 1627, 1655, 1735, 1775, 1803, 1816, 1829]) (len := 192) (off := 1547) (t := 1587) (ax_d X (show cdA 350 40 = some (.tableswitch 1854 0 43 #[192, 265, 293, 349, 362, 402, 463, 512, 552, 592, 644, 684, 736, 776, 804, 844, 872, 900, 928, 941, 954, 982, 1010, 1038, 1078, 1091, 1119, 1159, 1187, 1227, 1267, 1307, 1359, 1399, 1427, 1483, 1547, 1627, 1655, 1735, 1775, 1803, 1816, 1829], 192, 0, 0, 0) from rfl)) (by decide) (by decide) (by decide) (by decide) ?_
        exact lc_36 G GR SF GT GW X E S hL I jR jFEQ p1 p2 p3 p4 (by omega) (by omega) (by omega) hk
      ·
        rw [gs]
        refine w_tabIn X.1 (dflt := 1854) (lo := 0) (hi := 43) (offs := #[192, 265, 293, 349, 362, 402, 463, 512, 552, 592, 644, 684, 736, 776, 804, 844, 872, 900, 928, 941, 954, 982, 1010, 1038, 1078, 1091, 1119, 1159, 1187, 1227, 1267, 1307, 1359, 1399, 1427, 1483, 1547, 1627, 1655, 1735, 1775, 1803, 1816, 1829]) (len := 192) (off := 1627) (t := 1667) (ax_d X (show cdA 350 40 = some (.tableswitch 1854 0 43 #[192, 265, 293, 349, 362, 402, 463, 512, 552, 592, 644, 684, 736, 776, 804, 844, 872, 900, 928, 941, 954, 982, 1010, 1038, 1078, 1091, 1119, 1159, 1187, 1227, 1267, 1307, 1359, 1399, 1427, 1483, 1547, 1627, 1655, 1735, 1775, 1803, 1816, 1829], 192, 0, 0, 0) from rfl)) (by decide) (by decide) (by decide) (by decide) ?_
        exact lc_37 G GR SF GT GW X E S hL I jR jFEQ p1 p2 p3 p4 (by omega) (by omega) (by omega) hk
      ·
        rw [gs]
        refine w_tabIn X.1 (dflt := 1854) (lo := 0) (hi := 43) (offs := #[192, 265, 293, 349, 362, 402, 463, 512, 552, 592, 644, 684, 736, 776, 804, 844, 872, 900, 928, 941, 954, 982, 1010, 1038, 1078, 1091, 1119, 1159, 1187, 1227, 1267, 1307, 1359, 1399, 1427, 1483, 1547, 1627, 1655, 1735, 1775, 1803, 1816, 1829]) (len := 192) (off := 1655) (t := 1695) (ax_d X (show cdA 350 40 = some (.tableswitch 1854 0 43 #[192, 265, 293, 349, 362, 402, 463, 512, 552, 592, 644, 684, 736, 776, 804, 844, 872, 900, 928, 941, 954, 982, 1010, 1038, 1078, 1091, 1119, 1159, 1187, 1227, 1267, 1307, 1359, 1399, 1427, 1483, 1547, 1627, 1655, 1735, 1775, 1803, 1816, 1829], 192, 0, 0, 0) from rfl)) (by decide) (by decide) (by decide) (by decide) ?_
        exact lc_38 G GR SF GT GW X E S hL I jR jFEQ p1 p2 p3 p4 (by omega) (by omega) (by omega) hk
      ·
        rw [gs]
        refine w_tabIn X.1 (dflt := 1854) (lo := 0) (hi := 43) (offs := #[192, 265, 293, 349, 362, 402, 463, 512, 552, 592, 644, 684, 736, 776, 804, 844, 872, 900, 928, 941, 954, 982, 1010, 1038, 1078, 1091, 1119, 1159, 1187, 1227, 1267, 1307, 1359, 1399, 1427, 1483, 1547, 1627, 1655, 1735, 1775, 1803, 1816, 1829]) (len := 192) (off := 1735) (t := 1775) (ax_d X (show cdA 350 40 = some (.tableswitch 1854 0 43 #[192, 265, 293, 349, 362, 402, 463, 512, 552, 592, 644, 684, 736, 776, 804, 844, 872, 900, 928, 941, 954, 982, 1010, 1038, 1078, 1091, 1119, 1159, 1187, 1227, 1267, 1307, 1359, 1399, 1427, 1483, 1547, 1627, 1655, 1735, 1775, 1803, 1816, 1829], 192, 0, 0, 0) from rfl)) (by decide) (by decide) (by decide) (by decide) ?_
        exact lc_39 G GR SF GT GW X E S hL I jR jFEQ p1 p2 p3 p4 (by omega) (by omega) (by omega) hk
      ·
        rw [gs]
        refine w_tabIn X.1 (dflt := 1854) (lo := 0) (hi := 43) (offs := #[192, 265, 293, 349, 362, 402, 463, 512, 552, 592, 644, 684, 736, 776, 804, 844, 872, 900, 928, 941, 954, 982, 1010, 1038, 1078, 1091, 1119, 1159, 1187, 1227, 1267, 1307, 1359, 1399, 1427, 1483, 1547, 1627, 1655, 1735, 1775, 1803, 1816, 1829]) (len := 192) (off := 1775) (t := 1815) (ax_d X (show cdA 350 40 = some (.tableswitch 1854 0 43 #[192, 265, 293, 349, 362, 402, 463, 512, 552, 592, 644, 684, 736, 776, 804, 844, 872, 900, 928, 941, 954, 982, 1010, 1038, 1078, 1091, 1119, 1159, 1187, 1227, 1267, 1307, 1359, 1399, 1427, 1483, 1547, 1627, 1655, 1735, 1775, 1803, 1816, 1829], 192, 0, 0, 0) from rfl)) (by decide) (by decide) (by decide) (by decide) ?_
        exact lc_40 G GR SF GT GW X E S hL I jR jFEQ p1 p2 p3 p4 (by omega) (by omega) (by omega) hk
      ·
        rw [gs]
        refine w_tabIn X.1 (dflt := 1854) (lo := 0) (hi := 43) (offs := #[192, 265, 293, 349, 362, 402, 463, 512, 552, 592, 644, 684, 736, 776, 804, 844, 872, 900, 928, 941, 954, 982, 1010, 1038, 1078, 1091, 1119, 1159, 1187, 1227, 1267, 1307, 1359, 1399, 1427, 1483, 1547, 1627, 1655, 1735, 1775, 1803, 1816, 1829]) (len := 192) (off := 1803) (t := 1843) (ax_d X (show cdA 350 40 = some (.tableswitch 1854 0 43 #[192, 265, 293, 349, 362, 402, 463, 512, 552, 592, 644, 684, 736, 776, 804, 844, 872, 900, 928, 941, 954, 982, 1010, 1038, 1078, 1091, 1119, 1159, 1187, 1227, 1267, 1307, 1359, 1399, 1427, 1483, 1547, 1627, 1655, 1735, 1775, 1803, 1816, 1829], 192, 0, 0, 0) from rfl)) (by decide) (by decide) (by decide) (by decide) ?_
        exact lc_41 G GR SF GT GW X E S hL I jR jFEQ p1 p2 p3 p4 (by omega) (by omega) (by omega) hk
      ·
        rw [gs]
        refine w_tabIn X.1 (dflt := 1854) (lo := 0) (hi := 43) (offs := #[192, 265, 293, 349, 362, 402, 463, 512, 552, 592, 644, 684, 736, 776, 804, 844, 872, 900, 928, 941, 954, 982, 1010, 1038, 1078, 1091, 1119, 1159, 1187, 1227, 1267, 1307, 1359, 1399, 1427, 1483, 1547, 1627, 1655, 1735, 1775, 1803, 1816, 1829]) (len := 192) (off := 1816) (t := 1856) (ax_d X (show cdA 350 40 = some (.tableswitch 1854 0 43 #[192, 265, 293, 349, 362, 402, 463, 512, 552, 592, 644, 684, 736, 776, 804, 844, 872, 900, 928, 941, 954, 982, 1010, 1038, 1078, 1091, 1119, 1159, 1187, 1227, 1267, 1307, 1359, 1399, 1427, 1483, 1547, 1627, 1655, 1735, 1775, 1803, 1816, 1829], 192, 0, 0, 0) from rfl)) (by decide) (by decide) (by decide) (by decide) ?_
        exact lc_42 G GR SF GT GW X E S hL I jR jFEQ p1 p2 p3 p4 (by omega) (by omega) (by omega) hk
      ·
        rw [gs]
        refine w_tabIn X.1 (dflt := 1854) (lo := 0) (hi := 43) (offs := #[192, 265, 293, 349, 362, 402, 463, 512, 552, 592, 644, 684, 736, 776, 804, 844, 872, 900, 928, 941, 954, 982, 1010, 1038, 1078, 1091, 1119, 1159, 1187, 1227, 1267, 1307, 1359, 1399, 1427, 1483, 1547, 1627, 1655, 1735, 1775, 1803, 1816, 1829]) (len := 192) (off := 1829) (t := 1869) (ax_d X (show cdA 350 40 = some (.tableswitch 1854 0 43 #[192, 265, 293, 349, 362, 402, 463, 512, 552, 592, 644, 684, 736, 776, 804, 844, 872, 900, 928, 941, 954, 982, 1010, 1038, 1078, 1091, 1119, 1159, 1187, 1227, 1267, 1307, 1359, 1399, 1427, 1483, 1547, 1627, 1655, 1735, 1775, 1803, 1816, 1829], 192, 0, 0, 0) from rfl)) (by decide) (by decide) (by decide) (by decide) ?_
        exact lc_43 G GR SF GT GW X E S hL I jR jFEQ p1 p2 p3 p4 (by omega) (by omega) (by omega) hk
      ·
        refine w_tabOut X.1 (dflt := 1854) (lo := 0) (hi := 43) (offs := #[192, 265, 293, 349, 362, 402, 463, 512, 552, 592, 644, 684, 736, 776, 804, 844, 872, 900, 928, 941, 954, 982, 1010, 1038, 1078, 1091, 1119, 1159, 1187, 1227, 1267, 1307, 1359, 1399, 1427, 1483, 1547, 1627, 1655, 1735, 1775, 1803, 1816, 1829]) (len := 192) (t := 1894) (ax_d X (show cdA 350 40 = some (.tableswitch 1854 0 43 #[192, 265, 293, 349, 362, 402, 463, 512, 552, 592, 644, 684, 736, 776, 804, 844, 872, 900, 928, 941, 954, 982, 1010, 1038, 1078, 1091, 1119, 1159, 1187, 1227, 1267, 1307, 1359, 1399, 1427, 1483, 1547, 1627, 1655, 1735, 1775, 1803, 1816, 1829], 192, 0, 0, 0) from rfl)) (by rw [zi ⟨by omega, by omega⟩]; omega) (by decide) ?_
        refine w_widen (ce' := 518 + 29 * m + 29) (sl' := 23524 + 222 * m + 222) (by omega) (by omega) ?_
        exact hk A s I jR jFEQ p1 p2 p3 p4
end M88
