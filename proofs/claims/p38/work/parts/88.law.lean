/-! The law's loop: a call of class and model each round -/
/-- the script's int at i -/
def sc (xs : Nat → Int32) (i : Int) : Int := (xs i.toNat).toInt
theorem sc_rng {xs : Nat → Int32} {i : Int} : rng (sc xs i) := rng_to _
/-- the script, as the law's activation sees it -/
def SX (k : kx_T) (b L : Nat) (xs : Nat → Int32) : Prop := va_X b L xs (kS k) (kS k).heap ∧ b < (kS k).heap.size ∧ ¬ kF k b
section ZS
variable {k : kx_T} {mn pc : Nat} {dT : Nat → ClassId} {lv : List (Nat × Value)} {st : List Value} {ws : va_W} {ce sl a b0 b L : Nat} {z : Int} {xs : Nat → Int32}
theorem z_sld (X : AX k mn dT) (S : SX k b L xs) (hL : L ≤ 3072) {i : Int} (h : cdA mn pc = some (.iaload, 1, a, b0, z)) (hi : 0 ≤ i ∧ i < (L : Int)) (g : WS k (pc + 1) lv (.int (Int32.ofInt (sc xs i)) :: st) ws ce sl) : WS k pc lv (.int (Int32.ofInt i) :: .ref b :: st) ws ce sl := by
  have e : xs (Int32.ofInt i).toNatClampNeg = Int32.ofInt (sc xs i) := by
    rw [on_of hi.1, on_cl (by omega)]
    exact (ofi_to _).symm
  rw [on_of hi.1] at e ⊢
  refine w_sld X.1 S.1 S.2.1 S.2.2 (on_in (by omega) (by omega)) (ax_d X h) ?_
  rw [e]
  exact g
theorem z_slen (X : AX k mn dT) (S : SX k b L xs) (hL : L ≤ 3072) (h : cdA mn pc = some (.arraylength, 1, a, b0, z)) (g : WS k (pc + 1) lv (.int (Int32.ofInt (L : Int)) :: st) ws ce sl) : WS k pc lv (.ref b :: st) ws ce sl := by
  refine w_slen X.1 S.1 S.2.1 S.2.2 (ax_d X h) ?_
  have e : Int32.ofNat L = Int32.ofInt (L : Int) := by
    have h9 := on_of (z := (L : Int)) (by omega)
    have h8 : ((L : Int)).toNat = L := by omega
    rw [h8] at h9
    exact h9.symm
  rw [e]
  exact g
theorem z_lO {A : Nat → Nat} {s : PS} (X : AX k mn dT) (h : cdA mn pc = some (.laload, 1, 0, 0, 0)) (g : WS k (pc + 1) lv (.long (gD s 460 0) :: st) (Wd A dT s) ce sl) : WS k pc lv (.int (Int32.ofInt 0) :: .ref (A 517) :: st) (Wd A dT s) ce sl :=
  s_lald X 517 (n := 1) (a := 460) (i := 0) h (by decide) rfl (by decide) (by decide) g
theorem lcmp_0 {x y : Int64} : lg_cmp x y = 0 ↔ x = y := lg_cmp_eq x y
theorem z_lc {s : PS} {b : Int} (hb : rng b) (g : ∀ c : Int, rng c → ((c = 0 ∧ iO s = b) ∨ (c ≠ 0 ∧ iO s ≠ b)) → WS k pc lv (.int (Int32.ofInt c) :: st) ws ce sl) : WS k pc lv (.int (lg_cmp (gD s 460 0) (Int32.ofInt b).toInt64) :: st) ws ce sl := by
  have h9 := g (lg_cmp (gD s 460 0) (Int32.ofInt b).toInt64).toInt (rng_to _)
  rw [ofi_to] at h9
  refine h9 ?_
  have e1 : (Int32.ofInt b).toInt64.toInt = b := by rw [Int32.toInt_toInt64, zi hb]
  by_cases q : gD s 460 0 = (Int32.ofInt b).toInt64
  · refine Or.inl ⟨by rw [lcmp_0.mpr q]; rfl, ?_⟩
    show (gD s 460 0).toInt = b
    rw [q, e1]
  · refine Or.inr ⟨fun z => q (lcmp_0.mp (Int32.toInt_inj.mp (show _ = (0 : Int32).toInt from z))), fun z => q (Int64.toInt_inj.mp ?_)⟩
    rw [e1]
    exact z
end ZS
section M88
variable {l : Launch} {s0 : State} {D : va_G} {tys : List (ClassId × FieldType)} {a0 : Array Value} {A : Nat → Nat} {dT : Nat → ClassId} {s : PS}
theorem lc_0 (G : GX l s0 D tys a0 dT) (GR : RS0 s0) (SF : SF0 s0) (GT : TXs0 s0) {k : kx_T} (X : AX k 350 dT) (E : kL k = l ∧ kS0 k = s0 ∧ kD k = D ∧ kR k = room_1) {q1 L : Nat} {xs : Nat → Int32} (S : SX k q1 L xs) (hL : L ≤ 3072) (I : Bd s) (jR : RLx s) (p1 : iI s 89 = 1) (p2 : iI s 12 ≤ 8) (p3 : iI s 70 = iI s 107) {i : Int} (hi : 0 ≤ i ∧ i + 6 ≤ (L : Int)) {ce sl : Nat} (hce : ce + 29 ≤ 601024) (hsl : sl + 222 ≤ 7293034) (hk : ∀ (A : Nat → Nat) (t : PS), Bd t → RLx t → iI t 89 = 1 → iI t 12 ≤ 8 → iI t 70 = iI t 107 → WS k 1894 [(0, .ref q1), (1, .ref (A 0)), (2, .ref (A 179)), (3, .ref (A 517)), (4, .int (Int32.ofInt i))] [] (Wd A dT t) (ce + 29) (sl + 222)) : WS k 232 [(0, .ref q1), (1, .ref (A 0)), (2, .ref (A 179)), (3, .ref (A 517)), (4, .int (Int32.ofInt i))] [] (Wd A dT s) ce sl := by
  have F : Fm [0, 73, 74] [0, 157] s s := fm_rf _ _ s
  have b1 : (0 : Int) ≤ iI s 70 ∧ iI s 70 ≤ 40 := I.1 70
  have b2 : (0 : Int) ≤ iI s 107 ∧ iI s 107 ≤ 40 := I.1 107
  have b3 : (0 : Int) ≤ iI s 12 ∧ iI s 12 ≤ 9 := I.1 12
  have b4 : (1 : Int) ≤ iI s 89 ∧ iI s 89 ≤ 8 := I.1 89
  refine z_aload_n X (x := A 0) (show cdA 350 232 = some (.aload_n 1, 1, 0, 0, 0) from rfl) (List.Mem.tail _ (List.Mem.head _)) ?_
  refine z_aload_n X (x := q1) (show cdA 350 233 = some (.aload_n 0, 1, 0, 0, 0) from rfl) (List.Mem.head _) ?_
  refine z_load X (x := i) (show cdA 350 234 = some (.iload 4, 2, 0, 0, 0) from rfl) (List.Mem.tail _ (List.Mem.tail _ (List.Mem.tail _ (List.Mem.tail _ (List.Mem.head _))))) ?_
  refine z_const X (show cdA 350 236 = some (.iconst 1, 1, 0, 0, 0) from rfl) ?_
  refine z_add X (show cdA 350 237 = some (.iadd, 1, 0, 0, 0) from rfl) ?_
  refine z_sld X S hL (show cdA 350 238 = some (.iaload, 1, 0, 0, 0) from rfl) (show 0 ≤ (i + 1) ∧ (i + 1) < (L : Int) by omega) ?_
  have sr5 : rng (sc xs (i + 1)) := sc_rng
  refine z_aload_n X (x := q1) (show cdA 350 239 = some (.aload_n 0, 1, 0, 0, 0) from rfl) (List.Mem.head _) ?_
  refine z_load X (x := i) (show cdA 350 240 = some (.iload 4, 2, 0, 0, 0) from rfl) (List.Mem.tail _ (List.Mem.tail _ (List.Mem.tail _ (List.Mem.tail _ (List.Mem.head _))))) ?_
  refine z_const X (show cdA 350 242 = some (.iconst 2, 1, 0, 0, 0) from rfl) ?_
  refine z_add X (show cdA 350 243 = some (.iadd, 1, 0, 0, 0) from rfl) ?_
  refine z_sld X S hL (show cdA 350 244 = some (.iaload, 1, 0, 0, 0) from rfl) (show 0 ≤ (i + 2) ∧ (i + 2) < (L : Int) by omega) ?_
  have sr6 : rng (sc xs (i + 2)) := sc_rng
  refine z_aload_n X (x := q1) (show cdA 350 245 = some (.aload_n 0, 1, 0, 0, 0) from rfl) (List.Mem.head _) ?_
  refine z_load X (x := i) (show cdA 350 246 = some (.iload 4, 2, 0, 0, 0) from rfl) (List.Mem.tail _ (List.Mem.tail _ (List.Mem.tail _ (List.Mem.tail _ (List.Mem.head _))))) ?_
  refine z_const X (show cdA 350 248 = some (.iconst 3, 1, 0, 0, 0) from rfl) ?_
  refine z_add X (show cdA 350 249 = some (.iadd, 1, 0, 0, 0) from rfl) ?_
  refine z_sld X S hL (show cdA 350 250 = some (.iaload, 1, 0, 0, 0) from rfl) (show 0 ≤ (i + 3) ∧ (i + 3) < (L : Int) by omega) ?_
  have sr7 : rng (sc xs (i + 3)) := sc_rng
  refine z_aload_n X (x := q1) (show cdA 350 251 = some (.aload_n 0, 1, 0, 0, 0) from rfl) (List.Mem.head _) ?_
  refine z_load X (x := i) (show cdA 350 252 = some (.iload 4, 2, 0, 0, 0) from rfl) (List.Mem.tail _ (List.Mem.tail _ (List.Mem.tail _ (List.Mem.tail _ (List.Mem.head _))))) ?_
  refine z_const X (show cdA 350 254 = some (.iconst 4, 1, 0, 0, 0) from rfl) ?_
  refine z_add X (show cdA 350 255 = some (.iadd, 1, 0, 0, 0) from rfl) ?_
  refine z_sld X S hL (show cdA 350 256 = some (.iaload, 1, 0, 0, 0) from rfl) (show 0 ≤ (i + 4) ∧ (i + 4) < (L : Int) by omega) ?_
  have sr8 : rng (sc xs (i + 4)) := sc_rng
  refine z_aload_n X (x := q1) (show cdA 350 257 = some (.aload_n 0, 1, 0, 0, 0) from rfl) (List.Mem.head _) ?_
  refine z_load X (x := i) (show cdA 350 258 = some (.iload 4, 2, 0, 0, 0) from rfl) (List.Mem.tail _ (List.Mem.tail _ (List.Mem.tail _ (List.Mem.tail _ (List.Mem.head _))))) ?_
  refine z_const X (show cdA 350 260 = some (.iconst 5, 1, 0, 0, 0) from rfl) ?_
  refine z_add X (show cdA 350 261 = some (.iadd, 1, 0, 0, 0) from rfl) ?_
  refine z_sld X S hL (show cdA 350 262 = some (.iaload, 1, 0, 0, 0) from rfl) (show 0 ≤ (i + 5) ∧ (i + 5) < (L : Int) by omega) ?_
  have sr9 : rng (sc xs (i + 5)) := sc_rng
  refine z_callV X 0 (rm := rmN 135) (As := [.int (Int32.ofInt (sc xs (i + 1))), .int (Int32.ofInt (sc xs (i + 2))), .int (Int32.ofInt (sc xs (i + 3))), .int (Int32.ofInt (sc xs (i + 4))), .int (Int32.ofInt (sc xs (i + 5)))]) (st := []) (show cdA 350 263 = some (.invokevirtual 136, 3, 135, 0, 0) from rfl) rfl (by decide) rfl (by rw [E.1, E.2.1, E.2.2.1]; exact cs_feed G I (by first | exact ⟨sr5.1, sr5.2⟩ | omega) (by first | exact ⟨sr6.1, sr6.2⟩ | omega) (by first | exact ⟨sr7.1, sr7.2⟩ | omega) (by first | exact ⟨sr8.1, sr8.2⟩ | omega) (by first | exact ⟨sr9.1, sr9.2⟩ | omega)) ⟨by rw [E.2.2.2]; exact (show 8 + 1 ≤ 2048 by omega), by rw [E.2.2.2]; exact (show 8 + (6 + 11) + 147 ≤ 84000 by omega), by rw [E.2.2.2]; exact (show ce + 0 ≤ 601024 by omega), by rw [E.2.2.2]; exact (show sl + 0 ≤ 7293034 by omega)⟩ (Nat.le_of_ble_eq_true rfl) (fun vv s10 hq => ?_) (fun ee s10 hq => ?_)
  rotate_left
  · obtain ⟨Is10, Fs10, e11, hv, hrs10, hps10⟩ := hq; cases hv
  obtain ⟨Is10, Fs10, e11, hv, hrs10, hps10⟩ := hq
  cases hv
  have Gs10 := fm_ts F Fs10 (by decide) (by decide)
  have JRLx_s10 : RLx s10 := RLx_fm Fs10 (by decide) jR
  have ws10_70 : iI s10 70 = iI s 70 := fm_i Fs10 (by decide)
  have ws10_107 : iI s10 107 = iI s 107 := fm_i Fs10 (by decide)
  have ws10_12 : iI s10 12 = iI s 12 := fm_i Fs10 (by decide)
  have ws10_89 : iI s10 89 = iI s 89 := fm_i Fs10 (by decide)
  have wos10 : iO s10 = iO s := fm_o Fs10 (by decide)
  show WS k 266 [(0, .ref q1), (1, .ref (A 0)), (2, .ref (A 179)), (3, .ref (A 517)), (4, .int (Int32.ofInt i))] [.int (Int32.ofInt e11)] (Wd A dT s10) ce sl
  refine w_pop X.1 (ax_d X (show cdA 350 266 = some (.pop, 1, 0, 0, 0) from rfl)) rfl ?_
  refine z_aload_n X (x := A 179) (show cdA 350 267 = some (.aload_n 2, 1, 0, 0, 0) from rfl) (List.Mem.tail _ (List.Mem.tail _ (List.Mem.head _))) ?_
  refine z_aload_n X (x := q1) (show cdA 350 268 = some (.aload_n 0, 1, 0, 0, 0) from rfl) (List.Mem.head _) ?_
  refine z_load X (x := i) (show cdA 350 269 = some (.iload 4, 2, 0, 0, 0) from rfl) (List.Mem.tail _ (List.Mem.tail _ (List.Mem.tail _ (List.Mem.tail _ (List.Mem.head _))))) ?_
  refine z_const X (show cdA 350 271 = some (.iconst 1, 1, 0, 0, 0) from rfl) ?_
  refine z_add X (show cdA 350 272 = some (.iadd, 1, 0, 0, 0) from rfl) ?_
  refine z_sld X S hL (show cdA 350 273 = some (.iaload, 1, 0, 0, 0) from rfl) (show 0 ≤ (i + 1) ∧ (i + 1) < (L : Int) by first | (clear hps10; omega) | omega) ?_
  have sr12 : rng (sc xs (i + 1)) := sc_rng
  refine z_aload_n X (x := q1) (show cdA 350 274 = some (.aload_n 0, 1, 0, 0, 0) from rfl) (List.Mem.head _) ?_
  refine z_load X (x := i) (show cdA 350 275 = some (.iload 4, 2, 0, 0, 0) from rfl) (List.Mem.tail _ (List.Mem.tail _ (List.Mem.tail _ (List.Mem.tail _ (List.Mem.head _))))) ?_
  refine z_const X (show cdA 350 277 = some (.iconst 2, 1, 0, 0, 0) from rfl) ?_
  refine z_add X (show cdA 350 278 = some (.iadd, 1, 0, 0, 0) from rfl) ?_
  refine z_sld X S hL (show cdA 350 279 = some (.iaload, 1, 0, 0, 0) from rfl) (show 0 ≤ (i + 2) ∧ (i + 2) < (L : Int) by first | (clear hps10; omega) | omega) ?_
  have sr13 : rng (sc xs (i + 2)) := sc_rng
  refine z_aload_n X (x := q1) (show cdA 350 280 = some (.aload_n 0, 1, 0, 0, 0) from rfl) (List.Mem.head _) ?_
  refine z_load X (x := i) (show cdA 350 281 = some (.iload 4, 2, 0, 0, 0) from rfl) (List.Mem.tail _ (List.Mem.tail _ (List.Mem.tail _ (List.Mem.tail _ (List.Mem.head _))))) ?_
  refine z_const X (show cdA 350 283 = some (.iconst 3, 1, 0, 0, 0) from rfl) ?_
  refine z_add X (show cdA 350 284 = some (.iadd, 1, 0, 0, 0) from rfl) ?_
  refine z_sld X S hL (show cdA 350 285 = some (.iaload, 1, 0, 0, 0) from rfl) (show 0 ≤ (i + 3) ∧ (i + 3) < (L : Int) by first | (clear hps10; omega) | omega) ?_
  have sr14 : rng (sc xs (i + 3)) := sc_rng
  refine z_aload_n X (x := q1) (show cdA 350 286 = some (.aload_n 0, 1, 0, 0, 0) from rfl) (List.Mem.head _) ?_
  refine z_load X (x := i) (show cdA 350 287 = some (.iload 4, 2, 0, 0, 0) from rfl) (List.Mem.tail _ (List.Mem.tail _ (List.Mem.tail _ (List.Mem.tail _ (List.Mem.head _))))) ?_
  refine z_const X (show cdA 350 289 = some (.iconst 4, 1, 0, 0, 0) from rfl) ?_
  refine z_add X (show cdA 350 290 = some (.iadd, 1, 0, 0, 0) from rfl) ?_
  refine z_sld X S hL (show cdA 350 291 = some (.iaload, 1, 0, 0, 0) from rfl) (show 0 ≤ (i + 4) ∧ (i + 4) < (L : Int) by first | (clear hps10; omega) | omega) ?_
  have sr15 : rng (sc xs (i + 4)) := sc_rng
  refine z_aload_n X (x := q1) (show cdA 350 292 = some (.aload_n 0, 1, 0, 0, 0) from rfl) (List.Mem.head _) ?_
  refine z_load X (x := i) (show cdA 350 293 = some (.iload 4, 2, 0, 0, 0) from rfl) (List.Mem.tail _ (List.Mem.tail _ (List.Mem.tail _ (List.Mem.tail _ (List.Mem.head _))))) ?_
  refine z_const X (show cdA 350 295 = some (.iconst 5, 1, 0, 0, 0) from rfl) ?_
  refine z_add X (show cdA 350 296 = some (.iadd, 1, 0, 0, 0) from rfl) ?_
  refine z_sld X S hL (show cdA 350 297 = some (.iaload, 1, 0, 0, 0) from rfl) (show 0 ≤ (i + 5) ∧ (i + 5) < (L : Int) by first | (clear hps10; omega) | omega) ?_
  have sr16 : rng (sc xs (i + 5)) := sc_rng
  refine z_callV X 179 (rm := rmN 191) (As := [.int (Int32.ofInt (sc xs (i + 1))), .int (Int32.ofInt (sc xs (i + 2))), .int (Int32.ofInt (sc xs (i + 3))), .int (Int32.ofInt (sc xs (i + 4))), .int (Int32.ofInt (sc xs (i + 5)))]) (st := []) (show cdA 350 298 = some (.invokevirtual 140, 3, 191, 0, 0) from rfl) rfl (by decide) rfl (by rw [E.1, E.2.1, E.2.2.1]; exact k_feed G Is10 (by first | exact ⟨sr12.1, sr12.2⟩ | omega) (by first | exact ⟨sr13.1, sr13.2⟩ | omega) (by first | exact ⟨sr14.1, sr14.2⟩ | omega) (by first | exact ⟨sr15.1, sr15.2⟩ | omega) (by first | exact ⟨sr16.1, sr16.2⟩ | omega)) ⟨by rw [E.2.2.2]; exact (show 6 + 1 ≤ 2048 by first | (clear hps10; omega) | omega), by rw [E.2.2.2]; exact (show 8 + (8 + 11) + 100 ≤ 84000 by first | (clear hps10; omega) | omega), by rw [E.2.2.2]; exact (show ce + 0 ≤ 601024 by first | (clear hps10; omega) | omega), by rw [E.2.2.2]; exact (show sl + 0 ≤ 7293034 by first | (clear hps10; omega) | omega)⟩ (Nat.le_of_ble_eq_true rfl) (fun vv s17 hq => ?_) (fun ee s17 hq => ?_)
  rotate_left
  · obtain ⟨Is17, Fs17, e18, hv, hrs17, hps17⟩ := hq; cases hv
  obtain ⟨Is17, Fs17, e18, hv, hrs17, hps17⟩ := hq
  cases hv
  have Gs17 := fm_ts Gs10 Fs17 (by decide) (by decide)
  have JRLx_s17 : RLx s17 := RLx_fm Fs17 (by decide) JRLx_s10
  have ws17_70 : iI s17 70 = iI s10 70 := fm_i Fs17 (by decide)
  have ws17_107 : iI s17 107 = iI s10 107 := fm_i Fs17 (by decide)
  have ws17_12 : iI s17 12 = iI s10 12 := fm_i Fs17 (by decide)
  have ws17_89 : iI s17 89 = iI s10 89 := fm_i Fs17 (by decide)
  have wos17 : iO s17 = iO s10 := fm_o Fs17 (by decide)
  show WS k 301 [(0, .ref q1), (1, .ref (A 0)), (2, .ref (A 179)), (3, .ref (A 517)), (4, .int (Int32.ofInt i))] [.int (Int32.ofInt e18)] (Wd A dT s17) ce sl
  refine w_pop X.1 (ax_d X (show cdA 350 301 = some (.pop, 1, 0, 0, 0) from rfl)) rfl ?_
  refine z_goto X (t := 1894) (show cdA 350 302 = some (.goto 1592, 3, 0, 0, 0) from rfl) (by decide) ?_
  refine w_widen (ce' := ce + 29) (sl' := sl + 222) (by first | (clear hps17 hps10; omega) | (clear hps10; omega) | omega) (by first | (clear hps17 hps10; omega) | (clear hps10; omega) | omega) ?_
  exact WS_lv (lv := [(0, .ref q1), (1, .ref (A 0)), (2, .ref (A 179)), (3, .ref (A 517)), (4, .int (Int32.ofInt i))]) (List.forall_mem_cons.mpr ⟨(List.Mem.head _), (List.forall_mem_cons.mpr ⟨(List.Mem.tail _ (List.Mem.head _)), (List.forall_mem_cons.mpr ⟨(List.Mem.tail _ (List.Mem.tail _ (List.Mem.head _))), (List.forall_mem_cons.mpr ⟨(List.Mem.tail _ (List.Mem.tail _ (List.Mem.tail _ (List.Mem.head _)))), (List.forall_mem_cons.mpr ⟨(List.Mem.tail _ (List.Mem.tail _ (List.Mem.tail _ (List.Mem.tail _ (List.Mem.head _))))), (fun q h => absurd h List.not_mem_nil)⟩)⟩)⟩)⟩)⟩) (hk A _ Is17 JRLx_s17 (by first | (clear hps17 hps10; omega) | (clear hps10; omega) | omega) (by first | (clear hps17 hps10; omega) | (clear hps10; omega) | omega) (by first | (clear hps17 hps10; omega) | (clear hps10; omega) | omega))
theorem lc_1 (G : GX l s0 D tys a0 dT) (GR : RS0 s0) (SF : SF0 s0) (GT : TXs0 s0) {k : kx_T} (X : AX k 350 dT) (E : kL k = l ∧ kS0 k = s0 ∧ kD k = D ∧ kR k = room_1) {q1 L : Nat} {xs : Nat → Int32} (S : SX k q1 L xs) (hL : L ≤ 3072) (I : Bd s) (jR : RLx s) (p1 : iI s 89 = 1) (p2 : iI s 12 ≤ 8) (p3 : iI s 70 = iI s 107) {i : Int} (hi : 0 ≤ i ∧ i + 6 ≤ (L : Int)) {ce sl : Nat} (hce : ce + 29 ≤ 601024) (hsl : sl + 222 ≤ 7293034) (hk : ∀ (A : Nat → Nat) (t : PS), Bd t → RLx t → iI t 89 = 1 → iI t 12 ≤ 8 → iI t 70 = iI t 107 → WS k 1894 [(0, .ref q1), (1, .ref (A 0)), (2, .ref (A 179)), (3, .ref (A 517)), (4, .int (Int32.ofInt i))] [] (Wd A dT t) (ce + 29) (sl + 222)) : WS k 305 [(0, .ref q1), (1, .ref (A 0)), (2, .ref (A 179)), (3, .ref (A 517)), (4, .int (Int32.ofInt i))] [] (Wd A dT s) ce sl := by
  have F : Fm [11, 9, 10, 2, 4, 6, 5, 1, 3, 0, 7, 8, 73, 74, 76, 90, 91, 77, 75, 78, 79, 80, 81] [15, 1, 2, 6, 1003, 1004, 1005, 1007, 1460, 165, 162, 166, 167, 168, 169, 170, 171, 172, 173, 174, 175, 176, 177, 178, 179, 180, 181, 182, 183, 184, 185, 186, 187, 188, 189] s s := fm_rf _ _ s
  have b1 : (0 : Int) ≤ iI s 70 ∧ iI s 70 ≤ 40 := I.1 70
  have b2 : (0 : Int) ≤ iI s 107 ∧ iI s 107 ≤ 40 := I.1 107
  have b3 : (0 : Int) ≤ iI s 12 ∧ iI s 12 ≤ 9 := I.1 12
  have b4 : (1 : Int) ≤ iI s 89 ∧ iI s 89 ≤ 8 := I.1 89
  refine z_aload_n X (x := A 0) (show cdA 350 305 = some (.aload_n 1, 1, 0, 0, 0) from rfl) (List.Mem.tail _ (List.Mem.head _)) ?_
  refine z_aload_n X (x := q1) (show cdA 350 306 = some (.aload_n 0, 1, 0, 0, 0) from rfl) (List.Mem.head _) ?_
  refine z_load X (x := i) (show cdA 350 307 = some (.iload 4, 2, 0, 0, 0) from rfl) (List.Mem.tail _ (List.Mem.tail _ (List.Mem.tail _ (List.Mem.tail _ (List.Mem.head _))))) ?_
  refine z_const X (show cdA 350 309 = some (.iconst 1, 1, 0, 0, 0) from rfl) ?_
  refine z_add X (show cdA 350 310 = some (.iadd, 1, 0, 0, 0) from rfl) ?_
  refine z_sld X S hL (show cdA 350 311 = some (.iaload, 1, 0, 0, 0) from rfl) (show 0 ≤ (i + 1) ∧ (i + 1) < (L : Int) by omega) ?_
  have sr5 : rng (sc xs (i + 1)) := sc_rng
  refine z_aload_n X (x := A 517) (show cdA 350 312 = some (.aload_n 3, 1, 0, 0, 0) from rfl) (List.Mem.tail _ (List.Mem.tail _ (List.Mem.tail _ (List.Mem.head _)))) ?_
  refine z_callL X (rm := rmN 314) (As := [.ref (A 0), .int (Int32.ofInt (sc xs (i + 1))), .ref (A 517)]) (st := []) (show cdA 350 313 = some (.invokestatic 141, 3, 314, 6, 0) from rfl) (by decide) rfl (by rw [E.1, E.2.1, E.2.2.1]; exact lw_stream G I (by omega)) ⟨by rw [E.2.2.2]; exact (show 11 + 1 ≤ 2048 by omega), by rw [E.2.2.2]; exact (show 8 + (4 + 11) + 213 ≤ 84000 by omega), by rw [E.2.2.2]; exact (show ce + 1 ≤ 601024 by omega), by rw [E.2.2.2]; exact (show sl + 6 ≤ 7293034 by omega)⟩ (Nat.le_of_ble_eq_true rfl) (fun vv A s6 hA2 hq => ?_) (fun ee A s6 hA2 hq => ?_)
  rotate_left
  · obtain ⟨Is6, Fs6, e7, hv, hrs6, hps6⟩ := hq; cases hv
  obtain ⟨Is6, Fs6, e7, hv, hrs6, hps6⟩ := hq
  cases hv
  rw [← hA2 0 (by decide)]
  rw [← hA2 179 (by decide)]
  rw [← hA2 517 (by decide)]
  have Gs6 := fm_ts F Fs6 (by decide) (by decide)
  have JRLx_s6 : RLx s6 := RLx_fm Fs6 (by decide) jR
  have ws6_70 : iI s6 70 = iI s 70 := fm_i Fs6 (by decide)
  have ws6_107 : iI s6 107 = iI s 107 := fm_i Fs6 (by decide)
  have ws6_12 : iI s6 12 = iI s 12 := fm_i Fs6 (by decide)
  have ws6_89 : iI s6 89 = iI s 89 := fm_i Fs6 (by decide)
  show WS k 316 [(0, .ref q1), (1, .ref (A 0)), (2, .ref (A 179)), (3, .ref (A 517)), (4, .int (Int32.ofInt i))] [.int (Int32.ofInt e7)] (Wd A dT s6) (ce + 1) (sl + 6)
  refine z_store X (lv' := [(5, .int (Int32.ofInt e7)), (0, .ref q1), (1, .ref (A 0)), (2, .ref (A 179)), (3, .ref (A 517)), (4, .int (Int32.ofInt i))]) (show cdA 350 316 = some (.istore 5, 2, 0, 0, 0) from rfl) (by decide) (fun _ h => h) ?_
  refine z_aload_n X (x := A 179) (show cdA 350 318 = some (.aload_n 2, 1, 0, 0, 0) from rfl) (List.Mem.tail _ (List.Mem.tail _ (List.Mem.tail _ (List.Mem.head _)))) ?_
  refine z_aload_n X (x := q1) (show cdA 350 319 = some (.aload_n 0, 1, 0, 0, 0) from rfl) (List.Mem.tail _ (List.Mem.head _)) ?_
  refine z_load X (x := i) (show cdA 350 320 = some (.iload 4, 2, 0, 0, 0) from rfl) (List.Mem.tail _ (List.Mem.tail _ (List.Mem.tail _ (List.Mem.tail _ (List.Mem.tail _ (List.Mem.head _)))))) ?_
  refine z_const X (show cdA 350 322 = some (.iconst 1, 1, 0, 0, 0) from rfl) ?_
  refine z_add X (show cdA 350 323 = some (.iadd, 1, 0, 0, 0) from rfl) ?_
  refine z_sld X S hL (show cdA 350 324 = some (.iaload, 1, 0, 0, 0) from rfl) (show 0 ≤ (i + 1) ∧ (i + 1) < (L : Int) by first | (clear hps6; omega) | omega) ?_
  have sr8 : rng (sc xs (i + 1)) := sc_rng
  refine z_callV X 179 (rm := rmN 200) (As := [.int (Int32.ofInt (sc xs (i + 1)))]) (st := []) (show cdA 350 325 = some (.invokevirtual 146, 3, 200, 0, 0) from rfl) rfl (by decide) rfl (by rw [E.1, E.2.1, E.2.2.1]; exact k_stream G Is6 JRLx_s6 (by first | exact ⟨sr8.1, sr8.2⟩ | omega)) ⟨by rw [E.2.2.2]; exact (show 10 + 1 ≤ 2048 by first | (clear hps6; omega) | omega), by rw [E.2.2.2]; exact (show 8 + (3 + 11) + 191 ≤ 84000 by first | (clear hps6; omega) | omega), by rw [E.2.2.2]; exact (show (ce + 1) + 0 ≤ 601024 by first | (clear hps6; omega) | omega), by rw [E.2.2.2]; exact (show (sl + 6) + 0 ≤ 7293034 by first | (clear hps6; omega) | omega)⟩ (Nat.le_of_ble_eq_true rfl) (fun vv s9 hq => ?_) (fun ee s9 hq => ?_)
  rotate_left
  · obtain ⟨Is9, Fs9, JRLx_s9, e10, hv, hrs9, hps9⟩ := hq; cases hv
  obtain ⟨Is9, Fs9, JRLx_s9, e10, hv, hrs9, hps9⟩ := hq
  cases hv
  have Gs9 := fm_ts Gs6 Fs9 (by decide) (by decide)
  have ws9_70 : iI s9 70 = iI s6 70 := fm_i Fs9 (by decide)
  have ws9_107 : iI s9 107 = iI s6 107 := fm_i Fs9 (by decide)
  have ws9_12 : iI s9 12 = iI s6 12 := fm_i Fs9 (by decide)
  have ws9_89 : iI s9 89 = iI s6 89 := fm_i Fs9 (by decide)
  have wos9 : iO s9 = iO s6 := fm_o Fs9 (by decide)
  show WS k 328 [(5, .int (Int32.ofInt e7)), (0, .ref q1), (1, .ref (A 0)), (2, .ref (A 179)), (3, .ref (A 517)), (4, .int (Int32.ofInt i))] [.int (Int32.ofInt e10)] (Wd A dT s9) (ce + 1) (sl + 6)
  refine z_store X (lv' := [(6, .int (Int32.ofInt e10)), (5, .int (Int32.ofInt e7)), (0, .ref q1), (1, .ref (A 0)), (2, .ref (A 179)), (3, .ref (A 517)), (4, .int (Int32.ofInt i))]) (show cdA 350 328 = some (.istore 6, 2, 0, 0, 0) from rfl) (by decide) (fun _ h => h) ?_
  refine z_goto X (t := 1894) (show cdA 350 330 = some (.goto 1564, 3, 0, 0, 0) from rfl) (by decide) ?_
  refine w_widen (ce' := ce + 29) (sl' := sl + 222) (by first | (clear hps9 hps6; omega) | (clear hps6; omega) | omega) (by first | (clear hps9 hps6; omega) | (clear hps6; omega) | omega) ?_
  exact WS_lv (lv := [(0, .ref q1), (1, .ref (A 0)), (2, .ref (A 179)), (3, .ref (A 517)), (4, .int (Int32.ofInt i))]) (List.forall_mem_cons.mpr ⟨(List.Mem.tail _ (List.Mem.tail _ (List.Mem.head _))), (List.forall_mem_cons.mpr ⟨(List.Mem.tail _ (List.Mem.tail _ (List.Mem.tail _ (List.Mem.head _)))), (List.forall_mem_cons.mpr ⟨(List.Mem.tail _ (List.Mem.tail _ (List.Mem.tail _ (List.Mem.tail _ (List.Mem.head _))))), (List.forall_mem_cons.mpr ⟨(List.Mem.tail _ (List.Mem.tail _ (List.Mem.tail _ (List.Mem.tail _ (List.Mem.tail _ (List.Mem.head _)))))), (List.forall_mem_cons.mpr ⟨(List.Mem.tail _ (List.Mem.tail _ (List.Mem.tail _ (List.Mem.tail _ (List.Mem.tail _ (List.Mem.tail _ (List.Mem.head _))))))), (fun q h => absurd h List.not_mem_nil)⟩)⟩)⟩)⟩)⟩) (hk A _ Is9 JRLx_s9 (by first | (clear hps9 hps6; omega) | (clear hps6; omega) | omega) (by first | (clear hps9 hps6; omega) | (clear hps6; omega) | omega) (by first | (clear hps9 hps6; omega) | (clear hps6; omega) | omega))
theorem lc_2 (G : GX l s0 D tys a0 dT) (GR : RS0 s0) (SF : SF0 s0) (GT : TXs0 s0) {k : kx_T} (X : AX k 350 dT) (E : kL k = l ∧ kS0 k = s0 ∧ kD k = D ∧ kR k = room_1) {q1 L : Nat} {xs : Nat → Int32} (S : SX k q1 L xs) (hL : L ≤ 3072) (I : Bd s) (jR : RLx s) (p1 : iI s 89 = 1) (p2 : iI s 12 ≤ 8) (p3 : iI s 70 = iI s 107) {i : Int} (hi : 0 ≤ i ∧ i + 6 ≤ (L : Int)) {ce sl : Nat} (hce : ce + 29 ≤ 601024) (hsl : sl + 222 ≤ 7293034) (hk : ∀ (A : Nat → Nat) (t : PS), Bd t → RLx t → iI t 89 = 1 → iI t 12 ≤ 8 → iI t 70 = iI t 107 → WS k 1894 [(0, .ref q1), (1, .ref (A 0)), (2, .ref (A 179)), (3, .ref (A 517)), (4, .int (Int32.ofInt i))] [] (Wd A dT t) (ce + 29) (sl + 222)) : WS k 333 [(0, .ref q1), (1, .ref (A 0)), (2, .ref (A 179)), (3, .ref (A 517)), (4, .int (Int32.ofInt i))] [] (Wd A dT s) ce sl := by
  have F : Fm [2, 4, 6, 5, 7, 8, 19, 16, 17, 18, 12, 13, 14, 15, 1, 3, 0, 73, 74, 76, 82, 83, 84, 85, 77, 75, 78, 79, 80, 81, 86, 87, 88] [16, 17, 18, 19, 1460, 160, 159, 158] s s := fm_rf _ _ s
  have b1 : (0 : Int) ≤ iI s 70 ∧ iI s 70 ≤ 40 := I.1 70
  have b2 : (0 : Int) ≤ iI s 107 ∧ iI s 107 ≤ 40 := I.1 107
  have b3 : (0 : Int) ≤ iI s 12 ∧ iI s 12 ≤ 9 := I.1 12
  have b4 : (1 : Int) ≤ iI s 89 ∧ iI s 89 ≤ 8 := I.1 89
  refine z_aload_n X (x := A 0) (show cdA 350 333 = some (.aload_n 1, 1, 0, 0, 0) from rfl) (List.Mem.tail _ (List.Mem.head _)) ?_
  refine z_aload_n X (x := q1) (show cdA 350 334 = some (.aload_n 0, 1, 0, 0, 0) from rfl) (List.Mem.head _) ?_
  refine z_load X (x := i) (show cdA 350 335 = some (.iload 4, 2, 0, 0, 0) from rfl) (List.Mem.tail _ (List.Mem.tail _ (List.Mem.tail _ (List.Mem.tail _ (List.Mem.head _))))) ?_
  refine z_const X (show cdA 350 337 = some (.iconst 1, 1, 0, 0, 0) from rfl) ?_
  refine z_add X (show cdA 350 338 = some (.iadd, 1, 0, 0, 0) from rfl) ?_
  refine z_sld X S hL (show cdA 350 339 = some (.iaload, 1, 0, 0, 0) from rfl) (show 0 ≤ (i + 1) ∧ (i + 1) < (L : Int) by omega) ?_
  have sr5 : rng (sc xs (i + 1)) := sc_rng
  refine z_aload_n X (x := A 517) (show cdA 350 340 = some (.aload_n 3, 1, 0, 0, 0) from rfl) (List.Mem.tail _ (List.Mem.tail _ (List.Mem.tail _ (List.Mem.head _)))) ?_
  refine z_callL X (rm := rmN 315) (As := [.ref (A 0), .int (Int32.ofInt (sc xs (i + 1))), .ref (A 517)]) (st := []) (show cdA 350 341 = some (.invokestatic 147, 3, 315, 6, 0) from rfl) (by decide) rfl (by rw [E.1, E.2.1, E.2.2.1]; exact lw_rules G SF GT I (by omega) (by omega)) ⟨by rw [E.2.2.2]; exact (show 71 + 1 ≤ 2048 by omega), by rw [E.2.2.2]; exact (show 8 + (4 + 11) + 3060 ≤ 84000 by omega), by rw [E.2.2.2]; exact (show ce + 1 ≤ 601024 by omega), by rw [E.2.2.2]; exact (show sl + 6 ≤ 7293034 by omega)⟩ (Nat.le_of_ble_eq_true rfl) (fun vv A s6 hA2 hq => ?_) (fun ee A s6 hA2 hq => ?_)
  rotate_left
  · obtain ⟨Is6, Fs6, e7, hv, hrs6, hps6⟩ := hq; cases hv
  obtain ⟨Is6, Fs6, e7, hv, hrs6, hps6⟩ := hq
  have hps6p := hps6.2
  cases hv
  rw [← hA2 0 (by decide)]
  rw [← hA2 179 (by decide)]
  rw [← hA2 517 (by decide)]
  have Gs6 := fm_ts F Fs6 (by decide) (by decide)
  have JRLx_s6 : RLx s6 := RLx_fm Fs6 (by decide) jR
  have ws6_70 : iI s6 70 = iI s 70 := fm_i Fs6 (by decide)
  have ws6_107 : iI s6 107 = iI s 107 := fm_i Fs6 (by decide)
  have b8 : (0 : Int) ≤ iI s6 12 ∧ iI s6 12 ≤ 9 := Is6.1 12
  have ws6_89 : iI s6 89 = iI s 89 := fm_i Fs6 (by decide)
  show WS k 344 [(0, .ref q1), (1, .ref (A 0)), (2, .ref (A 179)), (3, .ref (A 517)), (4, .int (Int32.ofInt i))] [.int (Int32.ofInt e7)] (Wd A dT s6) (ce + 1) (sl + 6)
  refine z_store X (lv' := [(5, .int (Int32.ofInt e7)), (0, .ref q1), (1, .ref (A 0)), (2, .ref (A 179)), (3, .ref (A 517)), (4, .int (Int32.ofInt i))]) (show cdA 350 344 = some (.istore 5, 2, 0, 0, 0) from rfl) (by decide) (fun _ h => h) ?_
  refine z_aload_n X (x := A 179) (show cdA 350 346 = some (.aload_n 2, 1, 0, 0, 0) from rfl) (List.Mem.tail _ (List.Mem.tail _ (List.Mem.tail _ (List.Mem.head _)))) ?_
  refine z_aload_n X (x := q1) (show cdA 350 347 = some (.aload_n 0, 1, 0, 0, 0) from rfl) (List.Mem.tail _ (List.Mem.head _)) ?_
  refine z_load X (x := i) (show cdA 350 348 = some (.iload 4, 2, 0, 0, 0) from rfl) (List.Mem.tail _ (List.Mem.tail _ (List.Mem.tail _ (List.Mem.tail _ (List.Mem.tail _ (List.Mem.head _)))))) ?_
  refine z_const X (show cdA 350 350 = some (.iconst 1, 1, 0, 0, 0) from rfl) ?_
  refine z_add X (show cdA 350 351 = some (.iadd, 1, 0, 0, 0) from rfl) ?_
  refine z_sld X S hL (show cdA 350 352 = some (.iaload, 1, 0, 0, 0) from rfl) (show 0 ≤ (i + 1) ∧ (i + 1) < (L : Int) by first | (clear hps6; omega) | omega) ?_
  have sr9 : rng (sc xs (i + 1)) := sc_rng
  refine z_callV X 179 (rm := rmN 214) (As := [.int (Int32.ofInt (sc xs (i + 1)))]) (st := []) (show cdA 350 353 = some (.invokevirtual 149, 3, 214, 0, 0) from rfl) rfl (by decide) rfl (by rw [E.1, E.2.1, E.2.2.1]; exact k_rules G Is6 (by first | exact ⟨sr9.1, sr9.2⟩ | omega)) ⟨by rw [E.2.2.2]; exact (show 61 + 1 ≤ 2048 by first | (clear hps6; omega) | omega), by rw [E.2.2.2]; exact (show 8 + (3 + 11) + 2660 ≤ 84000 by first | (clear hps6; omega) | omega), by rw [E.2.2.2]; exact (show (ce + 1) + 0 ≤ 601024 by first | (clear hps6; omega) | omega), by rw [E.2.2.2]; exact (show (sl + 6) + 0 ≤ 7293034 by first | (clear hps6; omega) | omega)⟩ (Nat.le_of_ble_eq_true rfl) (fun vv s10 hq => ?_) (fun ee s10 hq => ?_)
  rotate_left
  · obtain ⟨Is10, Fs10, e11, hv, hrs10, hps10⟩ := hq; cases hv
  obtain ⟨Is10, Fs10, e11, hv, hrs10, hps10⟩ := hq
  cases hv
  have Gs10 := fm_ts Gs6 Fs10 (by decide) (by decide)
  have JRLx_s10 : RLx s10 := RLx_fm Fs10 (by decide) JRLx_s6
  have ws10_70 : iI s10 70 = iI s6 70 := fm_i Fs10 (by decide)
  have ws10_107 : iI s10 107 = iI s6 107 := fm_i Fs10 (by decide)
  have ws10_12 : iI s10 12 = iI s6 12 := fm_i Fs10 (by decide)
  have ws10_89 : iI s10 89 = iI s6 89 := fm_i Fs10 (by decide)
  have wos10 : iO s10 = iO s6 := fm_o Fs10 (by decide)
  show WS k 356 [(5, .int (Int32.ofInt e7)), (0, .ref q1), (1, .ref (A 0)), (2, .ref (A 179)), (3, .ref (A 517)), (4, .int (Int32.ofInt i))] [.int (Int32.ofInt e11)] (Wd A dT s10) (ce + 1) (sl + 6)
  refine z_store X (lv' := [(6, .int (Int32.ofInt e11)), (5, .int (Int32.ofInt e7)), (0, .ref q1), (1, .ref (A 0)), (2, .ref (A 179)), (3, .ref (A 517)), (4, .int (Int32.ofInt i))]) (show cdA 350 356 = some (.istore 6, 2, 0, 0, 0) from rfl) (by decide) (fun _ h => h) ?_
  refine z_goto X (t := 1894) (show cdA 350 358 = some (.goto 1536, 3, 0, 0, 0) from rfl) (by decide) ?_
  refine w_widen (ce' := ce + 29) (sl' := sl + 222) (by first | (clear hps10 hps6; omega) | (clear hps6; omega) | omega) (by first | (clear hps10 hps6; omega) | (clear hps6; omega) | omega) ?_
  exact WS_lv (lv := [(0, .ref q1), (1, .ref (A 0)), (2, .ref (A 179)), (3, .ref (A 517)), (4, .int (Int32.ofInt i))]) (List.forall_mem_cons.mpr ⟨(List.Mem.tail _ (List.Mem.tail _ (List.Mem.head _))), (List.forall_mem_cons.mpr ⟨(List.Mem.tail _ (List.Mem.tail _ (List.Mem.tail _ (List.Mem.head _)))), (List.forall_mem_cons.mpr ⟨(List.Mem.tail _ (List.Mem.tail _ (List.Mem.tail _ (List.Mem.tail _ (List.Mem.head _))))), (List.forall_mem_cons.mpr ⟨(List.Mem.tail _ (List.Mem.tail _ (List.Mem.tail _ (List.Mem.tail _ (List.Mem.tail _ (List.Mem.head _)))))), (List.forall_mem_cons.mpr ⟨(List.Mem.tail _ (List.Mem.tail _ (List.Mem.tail _ (List.Mem.tail _ (List.Mem.tail _ (List.Mem.tail _ (List.Mem.head _))))))), (fun q h => absurd h List.not_mem_nil)⟩)⟩)⟩)⟩)⟩) (hk A _ Is10 JRLx_s10 (by first | (clear hps10 hps6; omega) | (clear hps6; omega) | omega) (by first | (clear hps10 hps6; omega) | (clear hps6; omega) | omega) (by first | (clear hps10 hps6; omega) | (clear hps6; omega) | omega))
theorem lc_3 (G : GX l s0 D tys a0 dT) (GR : RS0 s0) (SF : SF0 s0) (GT : TXs0 s0) {k : kx_T} (X : AX k 350 dT) (E : kL k = l ∧ kS0 k = s0 ∧ kD k = D ∧ kR k = room_1) {q1 L : Nat} {xs : Nat → Int32} (S : SX k q1 L xs) (hL : L ≤ 3072) (I : Bd s) (jR : RLx s) (p1 : iI s 89 = 1) (p2 : iI s 12 ≤ 8) (p3 : iI s 70 = iI s 107) {i : Int} (hi : 0 ≤ i ∧ i + 6 ≤ (L : Int)) {ce sl : Nat} (hce : ce + 29 ≤ 601024) (hsl : sl + 222 ≤ 7293034) (hk : ∀ (A : Nat → Nat) (t : PS), Bd t → RLx t → iI t 89 = 1 → iI t 12 ≤ 8 → iI t 70 = iI t 107 → WS k 1894 [(0, .ref q1), (1, .ref (A 0)), (2, .ref (A 179)), (3, .ref (A 517)), (4, .int (Int32.ofInt i))] [] (Wd A dT t) (ce + 29) (sl + 222)) : WS k 361 [(0, .ref q1), (1, .ref (A 0)), (2, .ref (A 179)), (3, .ref (A 517)), (4, .int (Int32.ofInt i))] [] (Wd A dT s) ce sl := by
  have F : Fm [73] [] s s := fm_rf _ _ s
  have b1 : (0 : Int) ≤ iI s 70 ∧ iI s 70 ≤ 40 := I.1 70
  have b2 : (0 : Int) ≤ iI s 107 ∧ iI s 107 ≤ 40 := I.1 107
  have b3 : (0 : Int) ≤ iI s 12 ∧ iI s 12 ≤ 9 := I.1 12
  have b4 : (1 : Int) ≤ iI s 89 ∧ iI s 89 ≤ 8 := I.1 89
  refine z_aload_n X (x := A 0) (show cdA 350 361 = some (.aload_n 1, 1, 0, 0, 0) from rfl) (List.Mem.tail _ (List.Mem.head _)) ?_
  refine z_callV X 0 (rm := rmN 138) (As := []) (st := []) (show cdA 350 362 = some (.invokevirtual 150, 3, 138, 0, 0) from rfl) rfl (by decide) rfl (by rw [E.1, E.2.1, E.2.2.1]; exact cs_fault G I ) ⟨by rw [E.2.2.2]; exact (show 6 + 1 ≤ 2048 by omega), by rw [E.2.2.2]; exact (show 8 + (1 + 11) + 100 ≤ 84000 by omega), by rw [E.2.2.2]; exact (show ce + 0 ≤ 601024 by omega), by rw [E.2.2.2]; exact (show sl + 0 ≤ 7293034 by omega)⟩ (Nat.le_of_ble_eq_true rfl) (fun vv s5 hq => ?_) (fun ee s5 hq => ?_)
  rotate_left
  · obtain ⟨Is5, Fs5, e6, hv, hrs5, hps5⟩ := hq; cases hv
  obtain ⟨Is5, Fs5, e6, hv, hrs5, hps5⟩ := hq
  cases hv
  have Gs5 := fm_ts F Fs5 (by decide) (by decide)
  have JRLx_s5 : RLx s5 := RLx_fm Fs5 (by decide) jR
  have ws5_70 : iI s5 70 = iI s 70 := fm_i Fs5 (by decide)
  have ws5_107 : iI s5 107 = iI s 107 := fm_i Fs5 (by decide)
  have ws5_12 : iI s5 12 = iI s 12 := fm_i Fs5 (by decide)
  have ws5_89 : iI s5 89 = iI s 89 := fm_i Fs5 (by decide)
  have wos5 : iO s5 = iO s := fm_o Fs5 (by decide)
  show WS k 365 [(0, .ref q1), (1, .ref (A 0)), (2, .ref (A 179)), (3, .ref (A 517)), (4, .int (Int32.ofInt i))] [.int (Int32.ofInt e6)] (Wd A dT s5) ce sl
  refine w_pop X.1 (ax_d X (show cdA 350 365 = some (.pop, 1, 0, 0, 0) from rfl)) rfl ?_
  refine z_aload_n X (x := A 179) (show cdA 350 366 = some (.aload_n 2, 1, 0, 0, 0) from rfl) (List.Mem.tail _ (List.Mem.tail _ (List.Mem.head _))) ?_
  refine z_callV X 179 (rm := rmN 215) (As := []) (st := []) (show cdA 350 367 = some (.invokevirtual 154, 3, 215, 0, 0) from rfl) rfl (by decide) rfl (by rw [E.1, E.2.1, E.2.2.1]; exact k_fault G Is5 ) ⟨by rw [E.2.2.2]; exact (show 6 + 1 ≤ 2048 by omega), by rw [E.2.2.2]; exact (show 8 + (1 + 11) + 100 ≤ 84000 by omega), by rw [E.2.2.2]; exact (show ce + 0 ≤ 601024 by omega), by rw [E.2.2.2]; exact (show sl + 0 ≤ 7293034 by omega)⟩ (Nat.le_of_ble_eq_true rfl) (fun vv s7 hq => ?_) (fun ee s7 hq => ?_)
  rotate_left
  · obtain ⟨Is7, Fs7, e8, hv, hrs7, hps7⟩ := hq; cases hv
  obtain ⟨Is7, Fs7, e8, hv, hrs7, hps7⟩ := hq
  cases hv
  have Gs7 := fm_ts Gs5 Fs7 (by decide) (by decide)
  have JRLx_s7 : RLx s7 := RLx_fm Fs7 (by decide) JRLx_s5
  have ws7_70 : iI s7 70 = iI s5 70 := fm_i Fs7 (by decide)
  have ws7_107 : iI s7 107 = iI s5 107 := fm_i Fs7 (by decide)
  have ws7_12 : iI s7 12 = iI s5 12 := fm_i Fs7 (by decide)
  have ws7_89 : iI s7 89 = iI s5 89 := fm_i Fs7 (by decide)
  have wos7 : iO s7 = iO s5 := fm_o Fs7 (by decide)
  show WS k 370 [(0, .ref q1), (1, .ref (A 0)), (2, .ref (A 179)), (3, .ref (A 517)), (4, .int (Int32.ofInt i))] [.int (Int32.ofInt e8)] (Wd A dT s7) ce sl
  refine w_pop X.1 (ax_d X (show cdA 350 370 = some (.pop, 1, 0, 0, 0) from rfl)) rfl ?_
  refine z_goto X (t := 1894) (show cdA 350 371 = some (.goto 1523, 3, 0, 0, 0) from rfl) (by decide) ?_
  refine w_widen (ce' := ce + 29) (sl' := sl + 222) (by omega) (by omega) ?_
  exact WS_lv (lv := [(0, .ref q1), (1, .ref (A 0)), (2, .ref (A 179)), (3, .ref (A 517)), (4, .int (Int32.ofInt i))]) (List.forall_mem_cons.mpr ⟨(List.Mem.head _), (List.forall_mem_cons.mpr ⟨(List.Mem.tail _ (List.Mem.head _)), (List.forall_mem_cons.mpr ⟨(List.Mem.tail _ (List.Mem.tail _ (List.Mem.head _))), (List.forall_mem_cons.mpr ⟨(List.Mem.tail _ (List.Mem.tail _ (List.Mem.tail _ (List.Mem.head _)))), (List.forall_mem_cons.mpr ⟨(List.Mem.tail _ (List.Mem.tail _ (List.Mem.tail _ (List.Mem.tail _ (List.Mem.head _))))), (fun q h => absurd h List.not_mem_nil)⟩)⟩)⟩)⟩)⟩) (hk A _ Is7 JRLx_s7 (by omega) (by omega) (by omega))
theorem lc_4 (G : GX l s0 D tys a0 dT) (GR : RS0 s0) (SF : SF0 s0) (GT : TXs0 s0) {k : kx_T} (X : AX k 350 dT) (E : kL k = l ∧ kS0 k = s0 ∧ kD k = D ∧ kR k = room_1) {q1 L : Nat} {xs : Nat → Int32} (S : SX k q1 L xs) (hL : L ≤ 3072) (I : Bd s) (jR : RLx s) (p1 : iI s 89 = 1) (p2 : iI s 12 ≤ 8) (p3 : iI s 70 = iI s 107) {i : Int} (hi : 0 ≤ i ∧ i + 6 ≤ (L : Int)) {ce sl : Nat} (hce : ce + 29 ≤ 601024) (hsl : sl + 222 ≤ 7293034) (hk : ∀ (A : Nat → Nat) (t : PS), Bd t → RLx t → iI t 89 = 1 → iI t 12 ≤ 8 → iI t 70 = iI t 107 → WS k 1894 [(0, .ref q1), (1, .ref (A 0)), (2, .ref (A 179)), (3, .ref (A 517)), (4, .int (Int32.ofInt i))] [] (Wd A dT t) (ce + 29) (sl + 222)) : WS k 374 [(0, .ref q1), (1, .ref (A 0)), (2, .ref (A 179)), (3, .ref (A 517)), (4, .int (Int32.ofInt i))] [] (Wd A dT s) ce sl := by
  have F : Fm [73] [1460] s s := fm_rf _ _ s
  have b1 : (0 : Int) ≤ iI s 70 ∧ iI s 70 ≤ 40 := I.1 70
  have b2 : (0 : Int) ≤ iI s 107 ∧ iI s 107 ≤ 40 := I.1 107
  have b3 : (0 : Int) ≤ iI s 12 ∧ iI s 12 ≤ 9 := I.1 12
  have b4 : (1 : Int) ≤ iI s 89 ∧ iI s 89 ≤ 8 := I.1 89
  refine z_aload_n X (x := A 0) (show cdA 350 374 = some (.aload_n 1, 1, 0, 0, 0) from rfl) (List.Mem.tail _ (List.Mem.head _)) ?_
  refine z_aload_n X (x := q1) (show cdA 350 375 = some (.aload_n 0, 1, 0, 0, 0) from rfl) (List.Mem.head _) ?_
  refine z_load X (x := i) (show cdA 350 376 = some (.iload 4, 2, 0, 0, 0) from rfl) (List.Mem.tail _ (List.Mem.tail _ (List.Mem.tail _ (List.Mem.tail _ (List.Mem.head _))))) ?_
  refine z_const X (show cdA 350 378 = some (.iconst 1, 1, 0, 0, 0) from rfl) ?_
  refine z_add X (show cdA 350 379 = some (.iadd, 1, 0, 0, 0) from rfl) ?_
  refine z_sld X S hL (show cdA 350 380 = some (.iaload, 1, 0, 0, 0) from rfl) (show 0 ≤ (i + 1) ∧ (i + 1) < (L : Int) by omega) ?_
  have sr5 : rng (sc xs (i + 1)) := sc_rng
  refine z_aload_n X (x := q1) (show cdA 350 381 = some (.aload_n 0, 1, 0, 0, 0) from rfl) (List.Mem.head _) ?_
  refine z_load X (x := i) (show cdA 350 382 = some (.iload 4, 2, 0, 0, 0) from rfl) (List.Mem.tail _ (List.Mem.tail _ (List.Mem.tail _ (List.Mem.tail _ (List.Mem.head _))))) ?_
  refine z_const X (show cdA 350 384 = some (.iconst 2, 1, 0, 0, 0) from rfl) ?_
  refine z_add X (show cdA 350 385 = some (.iadd, 1, 0, 0, 0) from rfl) ?_
  refine z_sld X S hL (show cdA 350 386 = some (.iaload, 1, 0, 0, 0) from rfl) (show 0 ≤ (i + 2) ∧ (i + 2) < (L : Int) by omega) ?_
  have sr6 : rng (sc xs (i + 2)) := sc_rng
  refine z_aload_n X (x := A 517) (show cdA 350 387 = some (.aload_n 3, 1, 0, 0, 0) from rfl) (List.Mem.tail _ (List.Mem.tail _ (List.Mem.tail _ (List.Mem.head _)))) ?_
  refine z_callL X (rm := rmN 316) (As := [.ref (A 0), .int (Int32.ofInt (sc xs (i + 1))), .int (Int32.ofInt (sc xs (i + 2))), .ref (A 517)]) (st := []) (show cdA 350 388 = some (.invokestatic 155, 3, 316, 6, 0) from rfl) (by decide) rfl (by rw [E.1, E.2.1, E.2.2.1]; exact lw_way G I (by omega) (by omega)) ⟨by rw [E.2.2.2]; exact (show 8 + 1 ≤ 2048 by omega), by rw [E.2.2.2]; exact (show 8 + (5 + 11) + 144 ≤ 84000 by omega), by rw [E.2.2.2]; exact (show ce + 1 ≤ 601024 by omega), by rw [E.2.2.2]; exact (show sl + 6 ≤ 7293034 by omega)⟩ (Nat.le_of_ble_eq_true rfl) (fun vv A s7 hA2 hq => ?_) (fun ee A s7 hA2 hq => ?_)
  rotate_left
  · obtain ⟨Is7, Fs7, e8, hv, hrs7, hps7⟩ := hq; cases hv
  obtain ⟨Is7, Fs7, e8, hv, hrs7, hps7⟩ := hq
  cases hv
  rw [← hA2 0 (by decide)]
  rw [← hA2 179 (by decide)]
  rw [← hA2 517 (by decide)]
  have Gs7 := fm_ts F Fs7 (by decide) (by decide)
  have JRLx_s7 : RLx s7 := RLx_fm Fs7 (by decide) jR
  have ws7_70 : iI s7 70 = iI s 70 := fm_i Fs7 (by decide)
  have ws7_107 : iI s7 107 = iI s 107 := fm_i Fs7 (by decide)
  have ws7_12 : iI s7 12 = iI s 12 := fm_i Fs7 (by decide)
  have ws7_89 : iI s7 89 = iI s 89 := fm_i Fs7 (by decide)
  show WS k 391 [(0, .ref q1), (1, .ref (A 0)), (2, .ref (A 179)), (3, .ref (A 517)), (4, .int (Int32.ofInt i))] [.int (Int32.ofInt e8)] (Wd A dT s7) (ce + 1) (sl + 6)
  refine z_store X (lv' := [(5, .int (Int32.ofInt e8)), (0, .ref q1), (1, .ref (A 0)), (2, .ref (A 179)), (3, .ref (A 517)), (4, .int (Int32.ofInt i))]) (show cdA 350 391 = some (.istore 5, 2, 0, 0, 0) from rfl) (by decide) (fun _ h => h) ?_
  refine z_aload_n X (x := A 179) (show cdA 350 393 = some (.aload_n 2, 1, 0, 0, 0) from rfl) (List.Mem.tail _ (List.Mem.tail _ (List.Mem.tail _ (List.Mem.head _)))) ?_
  refine z_aload_n X (x := q1) (show cdA 350 394 = some (.aload_n 0, 1, 0, 0, 0) from rfl) (List.Mem.tail _ (List.Mem.head _)) ?_
  refine z_load X (x := i) (show cdA 350 395 = some (.iload 4, 2, 0, 0, 0) from rfl) (List.Mem.tail _ (List.Mem.tail _ (List.Mem.tail _ (List.Mem.tail _ (List.Mem.tail _ (List.Mem.head _)))))) ?_
  refine z_const X (show cdA 350 397 = some (.iconst 1, 1, 0, 0, 0) from rfl) ?_
  refine z_add X (show cdA 350 398 = some (.iadd, 1, 0, 0, 0) from rfl) ?_
  refine z_sld X S hL (show cdA 350 399 = some (.iaload, 1, 0, 0, 0) from rfl) (show 0 ≤ (i + 1) ∧ (i + 1) < (L : Int) by omega) ?_
  have sr9 : rng (sc xs (i + 1)) := sc_rng
  refine z_aload_n X (x := q1) (show cdA 350 400 = some (.aload_n 0, 1, 0, 0, 0) from rfl) (List.Mem.tail _ (List.Mem.head _)) ?_
  refine z_load X (x := i) (show cdA 350 401 = some (.iload 4, 2, 0, 0, 0) from rfl) (List.Mem.tail _ (List.Mem.tail _ (List.Mem.tail _ (List.Mem.tail _ (List.Mem.tail _ (List.Mem.head _)))))) ?_
  refine z_const X (show cdA 350 403 = some (.iconst 2, 1, 0, 0, 0) from rfl) ?_
  refine z_add X (show cdA 350 404 = some (.iadd, 1, 0, 0, 0) from rfl) ?_
  refine z_sld X S hL (show cdA 350 405 = some (.iaload, 1, 0, 0, 0) from rfl) (show 0 ≤ (i + 2) ∧ (i + 2) < (L : Int) by omega) ?_
  have sr10 : rng (sc xs (i + 2)) := sc_rng
  refine z_callV X 179 (rm := rmN 217) (As := [.int (Int32.ofInt (sc xs (i + 1))), .int (Int32.ofInt (sc xs (i + 2)))]) (st := []) (show cdA 350 406 = some (.invokevirtual 158, 3, 217, 0, 0) from rfl) rfl (by decide) rfl (by rw [E.1, E.2.1, E.2.2.1]; exact k_way G Is7 (by first | exact ⟨sr9.1, sr9.2⟩ | omega) (by first | exact ⟨sr10.1, sr10.2⟩ | omega)) ⟨by rw [E.2.2.2]; exact (show 7 + 1 ≤ 2048 by omega), by rw [E.2.2.2]; exact (show 8 + (3 + 11) + 122 ≤ 84000 by omega), by rw [E.2.2.2]; exact (show (ce + 1) + 0 ≤ 601024 by omega), by rw [E.2.2.2]; exact (show (sl + 6) + 0 ≤ 7293034 by omega)⟩ (Nat.le_of_ble_eq_true rfl) (fun vv s11 hq => ?_) (fun ee s11 hq => ?_)
  rotate_left
  · obtain ⟨Is11, Fs11, e12, hv, hrs11, hps11⟩ := hq; cases hv
  obtain ⟨Is11, Fs11, e12, hv, hrs11, hps11⟩ := hq
  cases hv
  have Gs11 := fm_ts Gs7 Fs11 (by decide) (by decide)
  have JRLx_s11 : RLx s11 := RLx_fm Fs11 (by decide) JRLx_s7
  have ws11_70 : iI s11 70 = iI s7 70 := fm_i Fs11 (by decide)
  have ws11_107 : iI s11 107 = iI s7 107 := fm_i Fs11 (by decide)
  have ws11_12 : iI s11 12 = iI s7 12 := fm_i Fs11 (by decide)
  have ws11_89 : iI s11 89 = iI s7 89 := fm_i Fs11 (by decide)
  have wos11 : iO s11 = iO s7 := fm_o Fs11 (by decide)
  show WS k 409 [(5, .int (Int32.ofInt e8)), (0, .ref q1), (1, .ref (A 0)), (2, .ref (A 179)), (3, .ref (A 517)), (4, .int (Int32.ofInt i))] [.int (Int32.ofInt e12)] (Wd A dT s11) (ce + 1) (sl + 6)
  refine z_store X (lv' := [(6, .int (Int32.ofInt e12)), (5, .int (Int32.ofInt e8)), (0, .ref q1), (1, .ref (A 0)), (2, .ref (A 179)), (3, .ref (A 517)), (4, .int (Int32.ofInt i))]) (show cdA 350 409 = some (.istore 6, 2, 0, 0, 0) from rfl) (by decide) (fun _ h => h) ?_
  refine z_goto X (t := 1894) (show cdA 350 411 = some (.goto 1483, 3, 0, 0, 0) from rfl) (by decide) ?_
  refine w_widen (ce' := ce + 29) (sl' := sl + 222) (by omega) (by omega) ?_
  exact WS_lv (lv := [(0, .ref q1), (1, .ref (A 0)), (2, .ref (A 179)), (3, .ref (A 517)), (4, .int (Int32.ofInt i))]) (List.forall_mem_cons.mpr ⟨(List.Mem.tail _ (List.Mem.tail _ (List.Mem.head _))), (List.forall_mem_cons.mpr ⟨(List.Mem.tail _ (List.Mem.tail _ (List.Mem.tail _ (List.Mem.head _)))), (List.forall_mem_cons.mpr ⟨(List.Mem.tail _ (List.Mem.tail _ (List.Mem.tail _ (List.Mem.tail _ (List.Mem.head _))))), (List.forall_mem_cons.mpr ⟨(List.Mem.tail _ (List.Mem.tail _ (List.Mem.tail _ (List.Mem.tail _ (List.Mem.tail _ (List.Mem.head _)))))), (List.forall_mem_cons.mpr ⟨(List.Mem.tail _ (List.Mem.tail _ (List.Mem.tail _ (List.Mem.tail _ (List.Mem.tail _ (List.Mem.tail _ (List.Mem.head _))))))), (fun q h => absurd h List.not_mem_nil)⟩)⟩)⟩)⟩)⟩) (hk A _ Is11 JRLx_s11 (by omega) (by omega) (by omega))
theorem lc_5 (G : GX l s0 D tys a0 dT) (GR : RS0 s0) (SF : SF0 s0) (GT : TXs0 s0) {k : kx_T} (X : AX k 350 dT) (E : kL k = l ∧ kS0 k = s0 ∧ kD k = D ∧ kR k = room_1) {q1 L : Nat} {xs : Nat → Int32} (S : SX k q1 L xs) (hL : L ≤ 3072) (I : Bd s) (jR : RLx s) (p1 : iI s 89 = 1) (p2 : iI s 12 ≤ 8) (p3 : iI s 70 = iI s 107) {i : Int} (hi : 0 ≤ i ∧ i + 6 ≤ (L : Int)) {ce sl : Nat} (hce : ce + 29 ≤ 601024) (hsl : sl + 222 ≤ 7293034) (hk : ∀ (A : Nat → Nat) (t : PS), Bd t → RLx t → iI t 89 = 1 → iI t 12 ≤ 8 → iI t 70 = iI t 107 → WS k 1894 [(0, .ref q1), (1, .ref (A 0)), (2, .ref (A 179)), (3, .ref (A 517)), (4, .int (Int32.ofInt i))] [] (Wd A dT t) (ce + 29) (sl + 222)) : WS k 414 [(0, .ref q1), (1, .ref (A 0)), (2, .ref (A 179)), (3, .ref (A 517)), (4, .int (Int32.ofInt i))] [] (Wd A dT s) ce sl := by
  have F : Fm [73] [8, 11, 12, 13, 14, 190, 191, 192, 193, 194, 195, 196, 197, 198, 199, 200, 201] s s := fm_rf _ _ s
  have b1 : (0 : Int) ≤ iI s 70 ∧ iI s 70 ≤ 40 := I.1 70
  have b2 : (0 : Int) ≤ iI s 107 ∧ iI s 107 ≤ 40 := I.1 107
  have b3 : (0 : Int) ≤ iI s 12 ∧ iI s 12 ≤ 9 := I.1 12
  have b4 : (1 : Int) ≤ iI s 89 ∧ iI s 89 ≤ 8 := I.1 89
  refine z_aload_n X (x := A 0) (show cdA 350 414 = some (.aload_n 1, 1, 0, 0, 0) from rfl) (List.Mem.tail _ (List.Mem.head _)) ?_
  refine z_aload_n X (x := q1) (show cdA 350 415 = some (.aload_n 0, 1, 0, 0, 0) from rfl) (List.Mem.head _) ?_
  refine z_load X (x := i) (show cdA 350 416 = some (.iload 4, 2, 0, 0, 0) from rfl) (List.Mem.tail _ (List.Mem.tail _ (List.Mem.tail _ (List.Mem.tail _ (List.Mem.head _))))) ?_
  refine z_const X (show cdA 350 418 = some (.iconst 1, 1, 0, 0, 0) from rfl) ?_
  refine z_add X (show cdA 350 419 = some (.iadd, 1, 0, 0, 0) from rfl) ?_
  refine z_sld X S hL (show cdA 350 420 = some (.iaload, 1, 0, 0, 0) from rfl) (show 0 ≤ (i + 1) ∧ (i + 1) < (L : Int) by omega) ?_
  have sr5 : rng (sc xs (i + 1)) := sc_rng
  refine z_aload_n X (x := q1) (show cdA 350 421 = some (.aload_n 0, 1, 0, 0, 0) from rfl) (List.Mem.head _) ?_
  refine z_load X (x := i) (show cdA 350 422 = some (.iload 4, 2, 0, 0, 0) from rfl) (List.Mem.tail _ (List.Mem.tail _ (List.Mem.tail _ (List.Mem.tail _ (List.Mem.head _))))) ?_
  refine z_const X (show cdA 350 424 = some (.iconst 2, 1, 0, 0, 0) from rfl) ?_
  refine z_add X (show cdA 350 425 = some (.iadd, 1, 0, 0, 0) from rfl) ?_
  refine z_sld X S hL (show cdA 350 426 = some (.iaload, 1, 0, 0, 0) from rfl) (show 0 ≤ (i + 2) ∧ (i + 2) < (L : Int) by omega) ?_
  have sr6 : rng (sc xs (i + 2)) := sc_rng
  refine z_aload_n X (x := q1) (show cdA 350 427 = some (.aload_n 0, 1, 0, 0, 0) from rfl) (List.Mem.head _) ?_
  refine z_load X (x := i) (show cdA 350 428 = some (.iload 4, 2, 0, 0, 0) from rfl) (List.Mem.tail _ (List.Mem.tail _ (List.Mem.tail _ (List.Mem.tail _ (List.Mem.head _))))) ?_
  refine z_const X (show cdA 350 430 = some (.iconst 3, 1, 0, 0, 0) from rfl) ?_
  refine z_add X (show cdA 350 431 = some (.iadd, 1, 0, 0, 0) from rfl) ?_
  refine z_sld X S hL (show cdA 350 432 = some (.iaload, 1, 0, 0, 0) from rfl) (show 0 ≤ (i + 3) ∧ (i + 3) < (L : Int) by omega) ?_
  have sr7 : rng (sc xs (i + 3)) := sc_rng
  refine z_aload_n X (x := q1) (show cdA 350 433 = some (.aload_n 0, 1, 0, 0, 0) from rfl) (List.Mem.head _) ?_
  refine z_load X (x := i) (show cdA 350 434 = some (.iload 4, 2, 0, 0, 0) from rfl) (List.Mem.tail _ (List.Mem.tail _ (List.Mem.tail _ (List.Mem.tail _ (List.Mem.head _))))) ?_
  refine z_const X (show cdA 350 436 = some (.iconst 4, 1, 0, 0, 0) from rfl) ?_
  refine z_add X (show cdA 350 437 = some (.iadd, 1, 0, 0, 0) from rfl) ?_
  refine z_sld X S hL (show cdA 350 438 = some (.iaload, 1, 0, 0, 0) from rfl) (show 0 ≤ (i + 4) ∧ (i + 4) < (L : Int) by omega) ?_
  have sr8 : rng (sc xs (i + 4)) := sc_rng
  refine z_callL X (rm := rmN 317) (As := [.ref (A 0), .int (Int32.ofInt (sc xs (i + 1))), .int (Int32.ofInt (sc xs (i + 2))), .int (Int32.ofInt (sc xs (i + 3))), .int (Int32.ofInt (sc xs (i + 4)))]) (st := []) (show cdA 350 439 = some (.invokestatic 159, 3, 317, 6, 0) from rfl) (by decide) rfl (by rw [E.1, E.2.1, E.2.2.1]; exact lw_flow G I (by omega) (by omega) (by omega) (by omega)) ⟨by rw [E.2.2.2]; exact (show 11 + 1 ≤ 2048 by omega), by rw [E.2.2.2]; exact (show 8 + (6 + 11) + 219 ≤ 84000 by omega), by rw [E.2.2.2]; exact (show ce + 5 ≤ 601024 by omega), by rw [E.2.2.2]; exact (show sl + 30 ≤ 7293034 by omega)⟩ (Nat.le_of_ble_eq_true rfl) (fun vv A s9 hA2 hq => ?_) (fun ee A s9 hA2 hq => ?_)
  rotate_left
  · obtain ⟨Is9, Fs9, e10, hv, hrs9, hps9⟩ := hq; cases hv
  obtain ⟨Is9, Fs9, e10, hv, hrs9, hps9⟩ := hq
  cases hv
  rw [← hA2 0 (by decide)]
  rw [← hA2 179 (by decide)]
  rw [← hA2 517 (by decide)]
  have Gs9 := fm_ts F Fs9 (by decide) (by decide)
  have JRLx_s9 : RLx s9 := RLx_fm Fs9 (by decide) jR
  have ws9_70 : iI s9 70 = iI s 70 := fm_i Fs9 (by decide)
  have ws9_107 : iI s9 107 = iI s 107 := fm_i Fs9 (by decide)
  have ws9_12 : iI s9 12 = iI s 12 := fm_i Fs9 (by decide)
  have ws9_89 : iI s9 89 = iI s 89 := fm_i Fs9 (by decide)
  have wos9 : iO s9 = iO s := fm_o Fs9 (by decide)
  show WS k 442 [(0, .ref q1), (1, .ref (A 0)), (2, .ref (A 179)), (3, .ref (A 517)), (4, .int (Int32.ofInt i))] [.int (Int32.ofInt e10)] (Wd A dT s9) (ce + 5) (sl + 30)
  refine z_store X (lv' := [(5, .int (Int32.ofInt e10)), (0, .ref q1), (1, .ref (A 0)), (2, .ref (A 179)), (3, .ref (A 517)), (4, .int (Int32.ofInt i))]) (show cdA 350 442 = some (.istore 5, 2, 0, 0, 0) from rfl) (by decide) (fun _ h => h) ?_
  refine z_aload_n X (x := A 179) (show cdA 350 444 = some (.aload_n 2, 1, 0, 0, 0) from rfl) (List.Mem.tail _ (List.Mem.tail _ (List.Mem.tail _ (List.Mem.head _)))) ?_
  refine z_aload_n X (x := q1) (show cdA 350 445 = some (.aload_n 0, 1, 0, 0, 0) from rfl) (List.Mem.tail _ (List.Mem.head _)) ?_
  refine z_load X (x := i) (show cdA 350 446 = some (.iload 4, 2, 0, 0, 0) from rfl) (List.Mem.tail _ (List.Mem.tail _ (List.Mem.tail _ (List.Mem.tail _ (List.Mem.tail _ (List.Mem.head _)))))) ?_
  refine z_const X (show cdA 350 448 = some (.iconst 1, 1, 0, 0, 0) from rfl) ?_
  refine z_add X (show cdA 350 449 = some (.iadd, 1, 0, 0, 0) from rfl) ?_
  refine z_sld X S hL (show cdA 350 450 = some (.iaload, 1, 0, 0, 0) from rfl) (show 0 ≤ (i + 1) ∧ (i + 1) < (L : Int) by omega) ?_
  have sr11 : rng (sc xs (i + 1)) := sc_rng
  refine z_aload_n X (x := q1) (show cdA 350 451 = some (.aload_n 0, 1, 0, 0, 0) from rfl) (List.Mem.tail _ (List.Mem.head _)) ?_
  refine z_load X (x := i) (show cdA 350 452 = some (.iload 4, 2, 0, 0, 0) from rfl) (List.Mem.tail _ (List.Mem.tail _ (List.Mem.tail _ (List.Mem.tail _ (List.Mem.tail _ (List.Mem.head _)))))) ?_
  refine z_const X (show cdA 350 454 = some (.iconst 2, 1, 0, 0, 0) from rfl) ?_
  refine z_add X (show cdA 350 455 = some (.iadd, 1, 0, 0, 0) from rfl) ?_
  refine z_sld X S hL (show cdA 350 456 = some (.iaload, 1, 0, 0, 0) from rfl) (show 0 ≤ (i + 2) ∧ (i + 2) < (L : Int) by omega) ?_
  have sr12 : rng (sc xs (i + 2)) := sc_rng
  refine z_aload_n X (x := q1) (show cdA 350 457 = some (.aload_n 0, 1, 0, 0, 0) from rfl) (List.Mem.tail _ (List.Mem.head _)) ?_
  refine z_load X (x := i) (show cdA 350 458 = some (.iload 4, 2, 0, 0, 0) from rfl) (List.Mem.tail _ (List.Mem.tail _ (List.Mem.tail _ (List.Mem.tail _ (List.Mem.tail _ (List.Mem.head _)))))) ?_
  refine z_const X (show cdA 350 460 = some (.iconst 3, 1, 0, 0, 0) from rfl) ?_
  refine z_add X (show cdA 350 461 = some (.iadd, 1, 0, 0, 0) from rfl) ?_
  refine z_sld X S hL (show cdA 350 462 = some (.iaload, 1, 0, 0, 0) from rfl) (show 0 ≤ (i + 3) ∧ (i + 3) < (L : Int) by omega) ?_
  have sr13 : rng (sc xs (i + 3)) := sc_rng
  refine z_aload_n X (x := q1) (show cdA 350 463 = some (.aload_n 0, 1, 0, 0, 0) from rfl) (List.Mem.tail _ (List.Mem.head _)) ?_
  refine z_load X (x := i) (show cdA 350 464 = some (.iload 4, 2, 0, 0, 0) from rfl) (List.Mem.tail _ (List.Mem.tail _ (List.Mem.tail _ (List.Mem.tail _ (List.Mem.tail _ (List.Mem.head _)))))) ?_
  refine z_const X (show cdA 350 466 = some (.iconst 4, 1, 0, 0, 0) from rfl) ?_
  refine z_add X (show cdA 350 467 = some (.iadd, 1, 0, 0, 0) from rfl) ?_
  refine z_sld X S hL (show cdA 350 468 = some (.iaload, 1, 0, 0, 0) from rfl) (show 0 ≤ (i + 4) ∧ (i + 4) < (L : Int) by omega) ?_
  have sr14 : rng (sc xs (i + 4)) := sc_rng
  refine z_callV X 179 (rm := rmN 218) (As := [.int (Int32.ofInt (sc xs (i + 1))), .int (Int32.ofInt (sc xs (i + 2))), .int (Int32.ofInt (sc xs (i + 3))), .int (Int32.ofInt (sc xs (i + 4)))]) (st := []) (show cdA 350 469 = some (.invokevirtual 162, 3, 218, 0, 0) from rfl) rfl (by decide) rfl (by rw [E.1, E.2.1, E.2.2.1]; exact k_flow G Is9 (by first | exact ⟨sr11.1, sr11.2⟩ | omega) (by first | exact ⟨sr12.1, sr12.2⟩ | omega) (by first | exact ⟨sr13.1, sr13.2⟩ | omega) (by first | exact ⟨sr14.1, sr14.2⟩ | omega)) ⟨by rw [E.2.2.2]; exact (show 7 + 1 ≤ 2048 by omega), by rw [E.2.2.2]; exact (show 8 + (6 + 11) + 122 ≤ 84000 by omega), by rw [E.2.2.2]; exact (show (ce + 5) + 0 ≤ 601024 by omega), by rw [E.2.2.2]; exact (show (sl + 30) + 0 ≤ 7293034 by omega)⟩ (Nat.le_of_ble_eq_true rfl) (fun vv s15 hq => ?_) (fun ee s15 hq => ?_)
  rotate_left
  · obtain ⟨Is15, Fs15, hv, hps15⟩ := hq; cases hv
  obtain ⟨Is15, Fs15, hv, hps15⟩ := hq
  cases hv
  have Gs15 := fm_ts Gs9 Fs15 (by decide) (by decide)
  have JRLx_s15 : RLx s15 := RLx_fm Fs15 (by decide) JRLx_s9
  have ws15_70 : iI s15 70 = iI s9 70 := fm_i Fs15 (by decide)
  have ws15_107 : iI s15 107 = iI s9 107 := fm_i Fs15 (by decide)
  have ws15_12 : iI s15 12 = iI s9 12 := fm_i Fs15 (by decide)
  have ws15_89 : iI s15 89 = iI s9 89 := fm_i Fs15 (by decide)
  have wos15 : iO s15 = iO s9 := fm_o Fs15 (by decide)
  show WS k 472 [(5, .int (Int32.ofInt e10)), (0, .ref q1), (1, .ref (A 0)), (2, .ref (A 179)), (3, .ref (A 517)), (4, .int (Int32.ofInt i))] [] (Wd A dT s15) (ce + 5) (sl + 30)
  refine z_goto X (t := 1894) (show cdA 350 472 = some (.goto 1422, 3, 0, 0, 0) from rfl) (by decide) ?_
  refine w_widen (ce' := ce + 29) (sl' := sl + 222) (by omega) (by omega) ?_
  exact WS_lv (lv := [(0, .ref q1), (1, .ref (A 0)), (2, .ref (A 179)), (3, .ref (A 517)), (4, .int (Int32.ofInt i))]) (List.forall_mem_cons.mpr ⟨(List.Mem.tail _ (List.Mem.head _)), (List.forall_mem_cons.mpr ⟨(List.Mem.tail _ (List.Mem.tail _ (List.Mem.head _))), (List.forall_mem_cons.mpr ⟨(List.Mem.tail _ (List.Mem.tail _ (List.Mem.tail _ (List.Mem.head _)))), (List.forall_mem_cons.mpr ⟨(List.Mem.tail _ (List.Mem.tail _ (List.Mem.tail _ (List.Mem.tail _ (List.Mem.head _))))), (List.forall_mem_cons.mpr ⟨(List.Mem.tail _ (List.Mem.tail _ (List.Mem.tail _ (List.Mem.tail _ (List.Mem.tail _ (List.Mem.head _)))))), (fun q h => absurd h List.not_mem_nil)⟩)⟩)⟩)⟩)⟩) (hk A _ Is15 JRLx_s15 (by omega) (by omega) (by omega))
theorem lc_6 (G : GX l s0 D tys a0 dT) (GR : RS0 s0) (SF : SF0 s0) (GT : TXs0 s0) {k : kx_T} (X : AX k 350 dT) (E : kL k = l ∧ kS0 k = s0 ∧ kD k = D ∧ kR k = room_1) {q1 L : Nat} {xs : Nat → Int32} (S : SX k q1 L xs) (hL : L ≤ 3072) (I : Bd s) (jR : RLx s) (p1 : iI s 89 = 1) (p2 : iI s 12 ≤ 8) (p3 : iI s 70 = iI s 107) {i : Int} (hi : 0 ≤ i ∧ i + 6 ≤ (L : Int)) {ce sl : Nat} (hce : ce + 29 ≤ 601024) (hsl : sl + 222 ≤ 7293034) (hk : ∀ (A : Nat → Nat) (t : PS), Bd t → RLx t → iI t 89 = 1 → iI t 12 ≤ 8 → iI t 70 = iI t 107 → WS k 1894 [(0, .ref q1), (1, .ref (A 0)), (2, .ref (A 179)), (3, .ref (A 517)), (4, .int (Int32.ofInt i))] [] (Wd A dT t) (ce + 29) (sl + 222)) : WS k 475 [(0, .ref q1), (1, .ref (A 0)), (2, .ref (A 179)), (3, .ref (A 517)), (4, .int (Int32.ofInt i))] [] (Wd A dT s) ce sl := by
  have F : Fm [73] [9, 10, 11, 12, 13, 14, 163, 164] s s := fm_rf _ _ s
  have b1 : (0 : Int) ≤ iI s 70 ∧ iI s 70 ≤ 40 := I.1 70
  have b2 : (0 : Int) ≤ iI s 107 ∧ iI s 107 ≤ 40 := I.1 107
  have b3 : (0 : Int) ≤ iI s 12 ∧ iI s 12 ≤ 9 := I.1 12
  have b4 : (1 : Int) ≤ iI s 89 ∧ iI s 89 ≤ 8 := I.1 89
  refine z_aload_n X (x := A 0) (show cdA 350 475 = some (.aload_n 1, 1, 0, 0, 0) from rfl) (List.Mem.tail _ (List.Mem.head _)) ?_
  refine z_aload_n X (x := q1) (show cdA 350 476 = some (.aload_n 0, 1, 0, 0, 0) from rfl) (List.Mem.head _) ?_
  refine z_load X (x := i) (show cdA 350 477 = some (.iload 4, 2, 0, 0, 0) from rfl) (List.Mem.tail _ (List.Mem.tail _ (List.Mem.tail _ (List.Mem.tail _ (List.Mem.head _))))) ?_
  refine z_const X (show cdA 350 479 = some (.iconst 1, 1, 0, 0, 0) from rfl) ?_
  refine z_add X (show cdA 350 480 = some (.iadd, 1, 0, 0, 0) from rfl) ?_
  refine z_sld X S hL (show cdA 350 481 = some (.iaload, 1, 0, 0, 0) from rfl) (show 0 ≤ (i + 1) ∧ (i + 1) < (L : Int) by omega) ?_
  have sr5 : rng (sc xs (i + 1)) := sc_rng
  refine z_aload_n X (x := q1) (show cdA 350 482 = some (.aload_n 0, 1, 0, 0, 0) from rfl) (List.Mem.head _) ?_
  refine z_load X (x := i) (show cdA 350 483 = some (.iload 4, 2, 0, 0, 0) from rfl) (List.Mem.tail _ (List.Mem.tail _ (List.Mem.tail _ (List.Mem.tail _ (List.Mem.head _))))) ?_
  refine z_const X (show cdA 350 485 = some (.iconst 2, 1, 0, 0, 0) from rfl) ?_
  refine z_add X (show cdA 350 486 = some (.iadd, 1, 0, 0, 0) from rfl) ?_
  refine z_sld X S hL (show cdA 350 487 = some (.iaload, 1, 0, 0, 0) from rfl) (show 0 ≤ (i + 2) ∧ (i + 2) < (L : Int) by omega) ?_
  have sr6 : rng (sc xs (i + 2)) := sc_rng
  refine z_aload_n X (x := q1) (show cdA 350 488 = some (.aload_n 0, 1, 0, 0, 0) from rfl) (List.Mem.head _) ?_
  refine z_load X (x := i) (show cdA 350 489 = some (.iload 4, 2, 0, 0, 0) from rfl) (List.Mem.tail _ (List.Mem.tail _ (List.Mem.tail _ (List.Mem.tail _ (List.Mem.head _))))) ?_
  refine z_const X (show cdA 350 491 = some (.iconst 3, 1, 0, 0, 0) from rfl) ?_
  refine z_add X (show cdA 350 492 = some (.iadd, 1, 0, 0, 0) from rfl) ?_
  refine z_sld X S hL (show cdA 350 493 = some (.iaload, 1, 0, 0, 0) from rfl) (show 0 ≤ (i + 3) ∧ (i + 3) < (L : Int) by omega) ?_
  have sr7 : rng (sc xs (i + 3)) := sc_rng
  refine z_callL X (rm := rmN 318) (As := [.ref (A 0), .int (Int32.ofInt (sc xs (i + 1))), .int (Int32.ofInt (sc xs (i + 2))), .int (Int32.ofInt (sc xs (i + 3)))]) (st := []) (show cdA 350 494 = some (.invokestatic 163, 3, 318, 6, 0) from rfl) (by decide) rfl (by rw [E.1, E.2.1, E.2.2.1]; exact lw_span G I (by omega) (by omega) (by omega)) ⟨by rw [E.2.2.2]; exact (show 11 + 1 ≤ 2048 by omega), by rw [E.2.2.2]; exact (show 8 + (5 + 11) + 216 ≤ 84000 by omega), by rw [E.2.2.2]; exact (show ce + 3 ≤ 601024 by omega), by rw [E.2.2.2]; exact (show sl + 18 ≤ 7293034 by omega)⟩ (Nat.le_of_ble_eq_true rfl) (fun vv A s8 hA2 hq => ?_) (fun ee A s8 hA2 hq => ?_)
  rotate_left
  · obtain ⟨Is8, Fs8, e9, hv, hrs8, hps8⟩ := hq; cases hv
  obtain ⟨Is8, Fs8, e9, hv, hrs8, hps8⟩ := hq
  cases hv
  rw [← hA2 0 (by decide)]
  rw [← hA2 179 (by decide)]
  rw [← hA2 517 (by decide)]
  have Gs8 := fm_ts F Fs8 (by decide) (by decide)
  have JRLx_s8 : RLx s8 := RLx_fm Fs8 (by decide) jR
  have ws8_70 : iI s8 70 = iI s 70 := fm_i Fs8 (by decide)
  have ws8_107 : iI s8 107 = iI s 107 := fm_i Fs8 (by decide)
  have ws8_12 : iI s8 12 = iI s 12 := fm_i Fs8 (by decide)
  have ws8_89 : iI s8 89 = iI s 89 := fm_i Fs8 (by decide)
  have wos8 : iO s8 = iO s := fm_o Fs8 (by decide)
  show WS k 497 [(0, .ref q1), (1, .ref (A 0)), (2, .ref (A 179)), (3, .ref (A 517)), (4, .int (Int32.ofInt i))] [.int (Int32.ofInt e9)] (Wd A dT s8) (ce + 3) (sl + 18)
  refine z_store X (lv' := [(5, .int (Int32.ofInt e9)), (0, .ref q1), (1, .ref (A 0)), (2, .ref (A 179)), (3, .ref (A 517)), (4, .int (Int32.ofInt i))]) (show cdA 350 497 = some (.istore 5, 2, 0, 0, 0) from rfl) (by decide) (fun _ h => h) ?_
  refine z_aload_n X (x := A 179) (show cdA 350 499 = some (.aload_n 2, 1, 0, 0, 0) from rfl) (List.Mem.tail _ (List.Mem.tail _ (List.Mem.tail _ (List.Mem.head _)))) ?_
  refine z_aload_n X (x := q1) (show cdA 350 500 = some (.aload_n 0, 1, 0, 0, 0) from rfl) (List.Mem.tail _ (List.Mem.head _)) ?_
  refine z_load X (x := i) (show cdA 350 501 = some (.iload 4, 2, 0, 0, 0) from rfl) (List.Mem.tail _ (List.Mem.tail _ (List.Mem.tail _ (List.Mem.tail _ (List.Mem.tail _ (List.Mem.head _)))))) ?_
  refine z_const X (show cdA 350 503 = some (.iconst 1, 1, 0, 0, 0) from rfl) ?_
  refine z_add X (show cdA 350 504 = some (.iadd, 1, 0, 0, 0) from rfl) ?_
  refine z_sld X S hL (show cdA 350 505 = some (.iaload, 1, 0, 0, 0) from rfl) (show 0 ≤ (i + 1) ∧ (i + 1) < (L : Int) by omega) ?_
  have sr10 : rng (sc xs (i + 1)) := sc_rng
  refine z_aload_n X (x := q1) (show cdA 350 506 = some (.aload_n 0, 1, 0, 0, 0) from rfl) (List.Mem.tail _ (List.Mem.head _)) ?_
  refine z_load X (x := i) (show cdA 350 507 = some (.iload 4, 2, 0, 0, 0) from rfl) (List.Mem.tail _ (List.Mem.tail _ (List.Mem.tail _ (List.Mem.tail _ (List.Mem.tail _ (List.Mem.head _)))))) ?_
  refine z_const X (show cdA 350 509 = some (.iconst 2, 1, 0, 0, 0) from rfl) ?_
  refine z_add X (show cdA 350 510 = some (.iadd, 1, 0, 0, 0) from rfl) ?_
  refine z_sld X S hL (show cdA 350 511 = some (.iaload, 1, 0, 0, 0) from rfl) (show 0 ≤ (i + 2) ∧ (i + 2) < (L : Int) by omega) ?_
  have sr11 : rng (sc xs (i + 2)) := sc_rng
  refine z_aload_n X (x := q1) (show cdA 350 512 = some (.aload_n 0, 1, 0, 0, 0) from rfl) (List.Mem.tail _ (List.Mem.head _)) ?_
  refine z_load X (x := i) (show cdA 350 513 = some (.iload 4, 2, 0, 0, 0) from rfl) (List.Mem.tail _ (List.Mem.tail _ (List.Mem.tail _ (List.Mem.tail _ (List.Mem.tail _ (List.Mem.head _)))))) ?_
  refine z_const X (show cdA 350 515 = some (.iconst 3, 1, 0, 0, 0) from rfl) ?_
  refine z_add X (show cdA 350 516 = some (.iadd, 1, 0, 0, 0) from rfl) ?_
  refine z_sld X S hL (show cdA 350 517 = some (.iaload, 1, 0, 0, 0) from rfl) (show 0 ≤ (i + 3) ∧ (i + 3) < (L : Int) by omega) ?_
  have sr12 : rng (sc xs (i + 3)) := sc_rng
  refine z_callV X 179 (rm := rmN 219) (As := [.int (Int32.ofInt (sc xs (i + 1))), .int (Int32.ofInt (sc xs (i + 2))), .int (Int32.ofInt (sc xs (i + 3)))]) (st := []) (show cdA 350 518 = some (.invokevirtual 166, 3, 219, 0, 0) from rfl) rfl (by decide) rfl (by rw [E.1, E.2.1, E.2.2.1]; exact k_span G Is8 (by first | exact ⟨sr10.1, sr10.2⟩ | omega) (by first | exact ⟨sr11.1, sr11.2⟩ | omega) (by first | exact ⟨sr12.1, sr12.2⟩ | omega)) ⟨by rw [E.2.2.2]; exact (show 7 + 1 ≤ 2048 by omega), by rw [E.2.2.2]; exact (show 8 + (4 + 11) + 122 ≤ 84000 by omega), by rw [E.2.2.2]; exact (show (ce + 3) + 0 ≤ 601024 by omega), by rw [E.2.2.2]; exact (show (sl + 18) + 0 ≤ 7293034 by omega)⟩ (Nat.le_of_ble_eq_true rfl) (fun vv s13 hq => ?_) (fun ee s13 hq => ?_)
  rotate_left
  · obtain ⟨Is13, Fs13, hv, hps13⟩ := hq; cases hv
  obtain ⟨Is13, Fs13, hv, hps13⟩ := hq
  cases hv
  have Gs13 := fm_ts Gs8 Fs13 (by decide) (by decide)
  have JRLx_s13 : RLx s13 := RLx_fm Fs13 (by decide) JRLx_s8
  have ws13_70 : iI s13 70 = iI s8 70 := fm_i Fs13 (by decide)
  have ws13_107 : iI s13 107 = iI s8 107 := fm_i Fs13 (by decide)
  have ws13_12 : iI s13 12 = iI s8 12 := fm_i Fs13 (by decide)
  have ws13_89 : iI s13 89 = iI s8 89 := fm_i Fs13 (by decide)
  have wos13 : iO s13 = iO s8 := fm_o Fs13 (by decide)
  show WS k 521 [(5, .int (Int32.ofInt e9)), (0, .ref q1), (1, .ref (A 0)), (2, .ref (A 179)), (3, .ref (A 517)), (4, .int (Int32.ofInt i))] [] (Wd A dT s13) (ce + 3) (sl + 18)
  refine z_goto X (t := 1894) (show cdA 350 521 = some (.goto 1373, 3, 0, 0, 0) from rfl) (by decide) ?_
  refine w_widen (ce' := ce + 29) (sl' := sl + 222) (by omega) (by omega) ?_
  exact WS_lv (lv := [(0, .ref q1), (1, .ref (A 0)), (2, .ref (A 179)), (3, .ref (A 517)), (4, .int (Int32.ofInt i))]) (List.forall_mem_cons.mpr ⟨(List.Mem.tail _ (List.Mem.head _)), (List.forall_mem_cons.mpr ⟨(List.Mem.tail _ (List.Mem.tail _ (List.Mem.head _))), (List.forall_mem_cons.mpr ⟨(List.Mem.tail _ (List.Mem.tail _ (List.Mem.tail _ (List.Mem.head _)))), (List.forall_mem_cons.mpr ⟨(List.Mem.tail _ (List.Mem.tail _ (List.Mem.tail _ (List.Mem.tail _ (List.Mem.head _))))), (List.forall_mem_cons.mpr ⟨(List.Mem.tail _ (List.Mem.tail _ (List.Mem.tail _ (List.Mem.tail _ (List.Mem.tail _ (List.Mem.head _)))))), (fun q h => absurd h List.not_mem_nil)⟩)⟩)⟩)⟩)⟩) (hk A _ Is13 JRLx_s13 (by omega) (by omega) (by omega))
theorem lc_7 (G : GX l s0 D tys a0 dT) (GR : RS0 s0) (SF : SF0 s0) (GT : TXs0 s0) {k : kx_T} (X : AX k 350 dT) (E : kL k = l ∧ kS0 k = s0 ∧ kD k = D ∧ kR k = room_1) {q1 L : Nat} {xs : Nat → Int32} (S : SX k q1 L xs) (hL : L ≤ 3072) (I : Bd s) (jR : RLx s) (p1 : iI s 89 = 1) (p2 : iI s 12 ≤ 8) (p3 : iI s 70 = iI s 107) {i : Int} (hi : 0 ≤ i ∧ i + 6 ≤ (L : Int)) {ce sl : Nat} (hce : ce + 29 ≤ 601024) (hsl : sl + 222 ≤ 7293034) (hk : ∀ (A : Nat → Nat) (t : PS), Bd t → RLx t → iI t 89 = 1 → iI t 12 ≤ 8 → iI t 70 = iI t 107 → WS k 1894 [(0, .ref q1), (1, .ref (A 0)), (2, .ref (A 179)), (3, .ref (A 517)), (4, .int (Int32.ofInt i))] [] (Wd A dT t) (ce + 29) (sl + 222)) : WS k 524 [(0, .ref q1), (1, .ref (A 0)), (2, .ref (A 179)), (3, .ref (A 517)), (4, .int (Int32.ofInt i))] [] (Wd A dT s) ce sl := by
  have F : Fm [73] [1460] s s := fm_rf _ _ s
  have b1 : (0 : Int) ≤ iI s 70 ∧ iI s 70 ≤ 40 := I.1 70
  have b2 : (0 : Int) ≤ iI s 107 ∧ iI s 107 ≤ 40 := I.1 107
  have b3 : (0 : Int) ≤ iI s 12 ∧ iI s 12 ≤ 9 := I.1 12
  have b4 : (1 : Int) ≤ iI s 89 ∧ iI s 89 ≤ 8 := I.1 89
  refine z_aload_n X (x := A 0) (show cdA 350 524 = some (.aload_n 1, 1, 0, 0, 0) from rfl) (List.Mem.tail _ (List.Mem.head _)) ?_
  refine z_aload_n X (x := q1) (show cdA 350 525 = some (.aload_n 0, 1, 0, 0, 0) from rfl) (List.Mem.head _) ?_
  refine z_load X (x := i) (show cdA 350 526 = some (.iload 4, 2, 0, 0, 0) from rfl) (List.Mem.tail _ (List.Mem.tail _ (List.Mem.tail _ (List.Mem.tail _ (List.Mem.head _))))) ?_
  refine z_const X (show cdA 350 528 = some (.iconst 1, 1, 0, 0, 0) from rfl) ?_
  refine z_add X (show cdA 350 529 = some (.iadd, 1, 0, 0, 0) from rfl) ?_
  refine z_sld X S hL (show cdA 350 530 = some (.iaload, 1, 0, 0, 0) from rfl) (show 0 ≤ (i + 1) ∧ (i + 1) < (L : Int) by omega) ?_
  have sr5 : rng (sc xs (i + 1)) := sc_rng
  refine z_aload_n X (x := q1) (show cdA 350 531 = some (.aload_n 0, 1, 0, 0, 0) from rfl) (List.Mem.head _) ?_
  refine z_load X (x := i) (show cdA 350 532 = some (.iload 4, 2, 0, 0, 0) from rfl) (List.Mem.tail _ (List.Mem.tail _ (List.Mem.tail _ (List.Mem.tail _ (List.Mem.head _))))) ?_
  refine z_const X (show cdA 350 534 = some (.iconst 2, 1, 0, 0, 0) from rfl) ?_
  refine z_add X (show cdA 350 535 = some (.iadd, 1, 0, 0, 0) from rfl) ?_
  refine z_sld X S hL (show cdA 350 536 = some (.iaload, 1, 0, 0, 0) from rfl) (show 0 ≤ (i + 2) ∧ (i + 2) < (L : Int) by omega) ?_
  have sr6 : rng (sc xs (i + 2)) := sc_rng
  refine z_aload_n X (x := A 517) (show cdA 350 537 = some (.aload_n 3, 1, 0, 0, 0) from rfl) (List.Mem.tail _ (List.Mem.tail _ (List.Mem.tail _ (List.Mem.head _)))) ?_
  refine z_callL X (rm := rmN 319) (As := [.ref (A 0), .int (Int32.ofInt (sc xs (i + 1))), .int (Int32.ofInt (sc xs (i + 2))), .ref (A 517)]) (st := []) (show cdA 350 538 = some (.invokestatic 167, 3, 319, 6, 0) from rfl) (by decide) rfl (by rw [E.1, E.2.1, E.2.2.1]; exact lw_most G I (by omega) (by omega)) ⟨by rw [E.2.2.2]; exact (show 9 + 1 ≤ 2048 by omega), by rw [E.2.2.2]; exact (show 8 + (5 + 11) + 166 ≤ 84000 by omega), by rw [E.2.2.2]; exact (show ce + 2 ≤ 601024 by omega), by rw [E.2.2.2]; exact (show sl + 12 ≤ 7293034 by omega)⟩ (Nat.le_of_ble_eq_true rfl) (fun vv A s7 hA2 hq => ?_) (fun ee A s7 hA2 hq => ?_)
  rotate_left
  · obtain ⟨Is7, Fs7, e8, hv, hrs7, hps7⟩ := hq; cases hv
  obtain ⟨Is7, Fs7, e8, hv, hrs7, hps7⟩ := hq
  cases hv
  rw [← hA2 0 (by decide)]
  rw [← hA2 179 (by decide)]
  rw [← hA2 517 (by decide)]
  have Gs7 := fm_ts F Fs7 (by decide) (by decide)
  have JRLx_s7 : RLx s7 := RLx_fm Fs7 (by decide) jR
  have ws7_70 : iI s7 70 = iI s 70 := fm_i Fs7 (by decide)
  have ws7_107 : iI s7 107 = iI s 107 := fm_i Fs7 (by decide)
  have ws7_12 : iI s7 12 = iI s 12 := fm_i Fs7 (by decide)
  have ws7_89 : iI s7 89 = iI s 89 := fm_i Fs7 (by decide)
  show WS k 541 [(0, .ref q1), (1, .ref (A 0)), (2, .ref (A 179)), (3, .ref (A 517)), (4, .int (Int32.ofInt i))] [.int (Int32.ofInt e8)] (Wd A dT s7) (ce + 2) (sl + 12)
  refine z_store X (lv' := [(5, .int (Int32.ofInt e8)), (0, .ref q1), (1, .ref (A 0)), (2, .ref (A 179)), (3, .ref (A 517)), (4, .int (Int32.ofInt i))]) (show cdA 350 541 = some (.istore 5, 2, 0, 0, 0) from rfl) (by decide) (fun _ h => h) ?_
  refine z_aload_n X (x := A 179) (show cdA 350 543 = some (.aload_n 2, 1, 0, 0, 0) from rfl) (List.Mem.tail _ (List.Mem.tail _ (List.Mem.tail _ (List.Mem.head _)))) ?_
  refine z_aload_n X (x := q1) (show cdA 350 544 = some (.aload_n 0, 1, 0, 0, 0) from rfl) (List.Mem.tail _ (List.Mem.head _)) ?_
  refine z_load X (x := i) (show cdA 350 545 = some (.iload 4, 2, 0, 0, 0) from rfl) (List.Mem.tail _ (List.Mem.tail _ (List.Mem.tail _ (List.Mem.tail _ (List.Mem.tail _ (List.Mem.head _)))))) ?_
  refine z_const X (show cdA 350 547 = some (.iconst 1, 1, 0, 0, 0) from rfl) ?_
  refine z_add X (show cdA 350 548 = some (.iadd, 1, 0, 0, 0) from rfl) ?_
  refine z_sld X S hL (show cdA 350 549 = some (.iaload, 1, 0, 0, 0) from rfl) (show 0 ≤ (i + 1) ∧ (i + 1) < (L : Int) by omega) ?_
  have sr9 : rng (sc xs (i + 1)) := sc_rng
  refine z_aload_n X (x := q1) (show cdA 350 550 = some (.aload_n 0, 1, 0, 0, 0) from rfl) (List.Mem.tail _ (List.Mem.head _)) ?_
  refine z_load X (x := i) (show cdA 350 551 = some (.iload 4, 2, 0, 0, 0) from rfl) (List.Mem.tail _ (List.Mem.tail _ (List.Mem.tail _ (List.Mem.tail _ (List.Mem.tail _ (List.Mem.head _)))))) ?_
  refine z_const X (show cdA 350 553 = some (.iconst 2, 1, 0, 0, 0) from rfl) ?_
  refine z_add X (show cdA 350 554 = some (.iadd, 1, 0, 0, 0) from rfl) ?_
  refine z_sld X S hL (show cdA 350 555 = some (.iaload, 1, 0, 0, 0) from rfl) (show 0 ≤ (i + 2) ∧ (i + 2) < (L : Int) by omega) ?_
  have sr10 : rng (sc xs (i + 2)) := sc_rng
  refine z_callV X 179 (rm := rmN 221) (As := [.int (Int32.ofInt (sc xs (i + 1))), .int (Int32.ofInt (sc xs (i + 2)))]) (st := []) (show cdA 350 556 = some (.invokevirtual 169, 3, 221, 0, 0) from rfl) rfl (by decide) rfl (by rw [E.1, E.2.1, E.2.2.1]; exact k_most G Is7 (by first | exact ⟨sr9.1, sr9.2⟩ | omega) (by first | exact ⟨sr10.1, sr10.2⟩ | omega)) ⟨by rw [E.2.2.2]; exact (show 8 + 1 ≤ 2048 by omega), by rw [E.2.2.2]; exact (show 8 + (3 + 11) + 146 ≤ 84000 by omega), by rw [E.2.2.2]; exact (show (ce + 2) + 0 ≤ 601024 by omega), by rw [E.2.2.2]; exact (show (sl + 12) + 0 ≤ 7293034 by omega)⟩ (Nat.le_of_ble_eq_true rfl) (fun vv s11 hq => ?_) (fun ee s11 hq => ?_)
  rotate_left
  · obtain ⟨Is11, Fs11, e12, hv, hrs11, hps11⟩ := hq; cases hv
  obtain ⟨Is11, Fs11, e12, hv, hrs11, hps11⟩ := hq
  cases hv
  have Gs11 := fm_ts Gs7 Fs11 (by decide) (by decide)
  have JRLx_s11 : RLx s11 := RLx_fm Fs11 (by decide) JRLx_s7
  have ws11_70 : iI s11 70 = iI s7 70 := fm_i Fs11 (by decide)
  have ws11_107 : iI s11 107 = iI s7 107 := fm_i Fs11 (by decide)
  have ws11_12 : iI s11 12 = iI s7 12 := fm_i Fs11 (by decide)
  have ws11_89 : iI s11 89 = iI s7 89 := fm_i Fs11 (by decide)
  have wos11 : iO s11 = iO s7 := fm_o Fs11 (by decide)
  show WS k 559 [(5, .int (Int32.ofInt e8)), (0, .ref q1), (1, .ref (A 0)), (2, .ref (A 179)), (3, .ref (A 517)), (4, .int (Int32.ofInt i))] [.int (Int32.ofInt e12)] (Wd A dT s11) (ce + 2) (sl + 12)
  refine z_store X (lv' := [(6, .int (Int32.ofInt e12)), (5, .int (Int32.ofInt e8)), (0, .ref q1), (1, .ref (A 0)), (2, .ref (A 179)), (3, .ref (A 517)), (4, .int (Int32.ofInt i))]) (show cdA 350 559 = some (.istore 6, 2, 0, 0, 0) from rfl) (by decide) (fun _ h => h) ?_
  refine z_goto X (t := 1894) (show cdA 350 561 = some (.goto 1333, 3, 0, 0, 0) from rfl) (by decide) ?_
  refine w_widen (ce' := ce + 29) (sl' := sl + 222) (by omega) (by omega) ?_
  exact WS_lv (lv := [(0, .ref q1), (1, .ref (A 0)), (2, .ref (A 179)), (3, .ref (A 517)), (4, .int (Int32.ofInt i))]) (List.forall_mem_cons.mpr ⟨(List.Mem.tail _ (List.Mem.tail _ (List.Mem.head _))), (List.forall_mem_cons.mpr ⟨(List.Mem.tail _ (List.Mem.tail _ (List.Mem.tail _ (List.Mem.head _)))), (List.forall_mem_cons.mpr ⟨(List.Mem.tail _ (List.Mem.tail _ (List.Mem.tail _ (List.Mem.tail _ (List.Mem.head _))))), (List.forall_mem_cons.mpr ⟨(List.Mem.tail _ (List.Mem.tail _ (List.Mem.tail _ (List.Mem.tail _ (List.Mem.tail _ (List.Mem.head _)))))), (List.forall_mem_cons.mpr ⟨(List.Mem.tail _ (List.Mem.tail _ (List.Mem.tail _ (List.Mem.tail _ (List.Mem.tail _ (List.Mem.tail _ (List.Mem.head _))))))), (fun q h => absurd h List.not_mem_nil)⟩)⟩)⟩)⟩)⟩) (hk A _ Is11 JRLx_s11 (by omega) (by omega) (by omega))
theorem lc_8 (G : GX l s0 D tys a0 dT) (GR : RS0 s0) (SF : SF0 s0) (GT : TXs0 s0) {k : kx_T} (X : AX k 350 dT) (E : kL k = l ∧ kS0 k = s0 ∧ kD k = D ∧ kR k = room_1) {q1 L : Nat} {xs : Nat → Int32} (S : SX k q1 L xs) (hL : L ≤ 3072) (I : Bd s) (jR : RLx s) (p1 : iI s 89 = 1) (p2 : iI s 12 ≤ 8) (p3 : iI s 70 = iI s 107) {i : Int} (hi : 0 ≤ i ∧ i + 6 ≤ (L : Int)) {ce sl : Nat} (hce : ce + 29 ≤ 601024) (hsl : sl + 222 ≤ 7293034) (hk : ∀ (A : Nat → Nat) (t : PS), Bd t → RLx t → iI t 89 = 1 → iI t 12 ≤ 8 → iI t 70 = iI t 107 → WS k 1894 [(0, .ref q1), (1, .ref (A 0)), (2, .ref (A 179)), (3, .ref (A 517)), (4, .int (Int32.ofInt i))] [] (Wd A dT t) (ce + 29) (sl + 222)) : WS k 564 [(0, .ref q1), (1, .ref (A 0)), (2, .ref (A 179)), (3, .ref (A 517)), (4, .int (Int32.ofInt i))] [] (Wd A dT s) ce sl := by
  have F : Fm [73] [21, 1022, 1023, 1460, 228] s s := fm_rf _ _ s
  have b1 : (0 : Int) ≤ iI s 70 ∧ iI s 70 ≤ 40 := I.1 70
  have b2 : (0 : Int) ≤ iI s 107 ∧ iI s 107 ≤ 40 := I.1 107
  have b3 : (0 : Int) ≤ iI s 12 ∧ iI s 12 ≤ 9 := I.1 12
  have b4 : (1 : Int) ≤ iI s 89 ∧ iI s 89 ≤ 8 := I.1 89
  refine z_aload_n X (x := A 0) (show cdA 350 564 = some (.aload_n 1, 1, 0, 0, 0) from rfl) (List.Mem.tail _ (List.Mem.head _)) ?_
  refine z_aload_n X (x := q1) (show cdA 350 565 = some (.aload_n 0, 1, 0, 0, 0) from rfl) (List.Mem.head _) ?_
  refine z_load X (x := i) (show cdA 350 566 = some (.iload 4, 2, 0, 0, 0) from rfl) (List.Mem.tail _ (List.Mem.tail _ (List.Mem.tail _ (List.Mem.tail _ (List.Mem.head _))))) ?_
  refine z_const X (show cdA 350 568 = some (.iconst 1, 1, 0, 0, 0) from rfl) ?_
  refine z_add X (show cdA 350 569 = some (.iadd, 1, 0, 0, 0) from rfl) ?_
  refine z_sld X S hL (show cdA 350 570 = some (.iaload, 1, 0, 0, 0) from rfl) (show 0 ≤ (i + 1) ∧ (i + 1) < (L : Int) by omega) ?_
  have sr5 : rng (sc xs (i + 1)) := sc_rng
  refine z_aload_n X (x := q1) (show cdA 350 571 = some (.aload_n 0, 1, 0, 0, 0) from rfl) (List.Mem.head _) ?_
  refine z_load X (x := i) (show cdA 350 572 = some (.iload 4, 2, 0, 0, 0) from rfl) (List.Mem.tail _ (List.Mem.tail _ (List.Mem.tail _ (List.Mem.tail _ (List.Mem.head _))))) ?_
  refine z_const X (show cdA 350 574 = some (.iconst 2, 1, 0, 0, 0) from rfl) ?_
  refine z_add X (show cdA 350 575 = some (.iadd, 1, 0, 0, 0) from rfl) ?_
  refine z_sld X S hL (show cdA 350 576 = some (.iaload, 1, 0, 0, 0) from rfl) (show 0 ≤ (i + 2) ∧ (i + 2) < (L : Int) by omega) ?_
  have sr6 : rng (sc xs (i + 2)) := sc_rng
  refine z_aload_n X (x := A 517) (show cdA 350 577 = some (.aload_n 3, 1, 0, 0, 0) from rfl) (List.Mem.tail _ (List.Mem.tail _ (List.Mem.tail _ (List.Mem.head _)))) ?_
  refine z_callL X (rm := rmN 320) (As := [.ref (A 0), .int (Int32.ofInt (sc xs (i + 1))), .int (Int32.ofInt (sc xs (i + 2))), .ref (A 517)]) (st := []) (show cdA 350 578 = some (.invokestatic 170, 3, 320, 6, 0) from rfl) (by decide) rfl (by rw [E.1, E.2.1, E.2.2.1]; exact lw_assign G I (by omega) (by omega)) ⟨by rw [E.2.2.2]; exact (show 8 + 1 ≤ 2048 by omega), by rw [E.2.2.2]; exact (show 8 + (5 + 11) + 148 ≤ 84000 by omega), by rw [E.2.2.2]; exact (show ce + 2 ≤ 601024 by omega), by rw [E.2.2.2]; exact (show sl + 12 ≤ 7293034 by omega)⟩ (Nat.le_of_ble_eq_true rfl) (fun vv A s7 hA2 hq => ?_) (fun ee A s7 hA2 hq => ?_)
  rotate_left
  · obtain ⟨Is7, Fs7, e8, hv, hrs7, hps7⟩ := hq; cases hv
  obtain ⟨Is7, Fs7, e8, hv, hrs7, hps7⟩ := hq
  cases hv
  rw [← hA2 0 (by decide)]
  rw [← hA2 179 (by decide)]
  rw [← hA2 517 (by decide)]
  have Gs7 := fm_ts F Fs7 (by decide) (by decide)
  have JRLx_s7 : RLx s7 := RLx_fm Fs7 (by decide) jR
  have ws7_70 : iI s7 70 = iI s 70 := fm_i Fs7 (by decide)
  have ws7_107 : iI s7 107 = iI s 107 := fm_i Fs7 (by decide)
  have ws7_12 : iI s7 12 = iI s 12 := fm_i Fs7 (by decide)
  have ws7_89 : iI s7 89 = iI s 89 := fm_i Fs7 (by decide)
  show WS k 581 [(0, .ref q1), (1, .ref (A 0)), (2, .ref (A 179)), (3, .ref (A 517)), (4, .int (Int32.ofInt i))] [.int (Int32.ofInt e8)] (Wd A dT s7) (ce + 2) (sl + 12)
  refine z_store X (lv' := [(5, .int (Int32.ofInt e8)), (0, .ref q1), (1, .ref (A 0)), (2, .ref (A 179)), (3, .ref (A 517)), (4, .int (Int32.ofInt i))]) (show cdA 350 581 = some (.istore 5, 2, 0, 0, 0) from rfl) (by decide) (fun _ h => h) ?_
  refine z_aload_n X (x := A 179) (show cdA 350 583 = some (.aload_n 2, 1, 0, 0, 0) from rfl) (List.Mem.tail _ (List.Mem.tail _ (List.Mem.tail _ (List.Mem.head _)))) ?_
  refine z_aload_n X (x := q1) (show cdA 350 584 = some (.aload_n 0, 1, 0, 0, 0) from rfl) (List.Mem.tail _ (List.Mem.head _)) ?_
  refine z_load X (x := i) (show cdA 350 585 = some (.iload 4, 2, 0, 0, 0) from rfl) (List.Mem.tail _ (List.Mem.tail _ (List.Mem.tail _ (List.Mem.tail _ (List.Mem.tail _ (List.Mem.head _)))))) ?_
  refine z_const X (show cdA 350 587 = some (.iconst 1, 1, 0, 0, 0) from rfl) ?_
  refine z_add X (show cdA 350 588 = some (.iadd, 1, 0, 0, 0) from rfl) ?_
  refine z_sld X S hL (show cdA 350 589 = some (.iaload, 1, 0, 0, 0) from rfl) (show 0 ≤ (i + 1) ∧ (i + 1) < (L : Int) by omega) ?_
  have sr9 : rng (sc xs (i + 1)) := sc_rng
  refine z_aload_n X (x := q1) (show cdA 350 590 = some (.aload_n 0, 1, 0, 0, 0) from rfl) (List.Mem.tail _ (List.Mem.head _)) ?_
  refine z_load X (x := i) (show cdA 350 591 = some (.iload 4, 2, 0, 0, 0) from rfl) (List.Mem.tail _ (List.Mem.tail _ (List.Mem.tail _ (List.Mem.tail _ (List.Mem.tail _ (List.Mem.head _)))))) ?_
  refine z_const X (show cdA 350 593 = some (.iconst 2, 1, 0, 0, 0) from rfl) ?_
  refine z_add X (show cdA 350 594 = some (.iadd, 1, 0, 0, 0) from rfl) ?_
  refine z_sld X S hL (show cdA 350 595 = some (.iaload, 1, 0, 0, 0) from rfl) (show 0 ≤ (i + 2) ∧ (i + 2) < (L : Int) by omega) ?_
  have sr10 : rng (sc xs (i + 2)) := sc_rng
  refine z_callV X 179 (rm := rmN 234) (As := [.int (Int32.ofInt (sc xs (i + 1))), .int (Int32.ofInt (sc xs (i + 2)))]) (st := []) (show cdA 350 596 = some (.invokevirtual 172, 3, 234, 0, 0) from rfl) rfl (by decide) rfl (by rw [E.1, E.2.1, E.2.2.1]; exact k_assign G Is7 (by first | exact ⟨sr9.1, sr9.2⟩ | omega) (by first | exact ⟨sr10.1, sr10.2⟩ | omega)) ⟨by rw [E.2.2.2]; exact (show 7 + 1 ≤ 2048 by omega), by rw [E.2.2.2]; exact (show 8 + (4 + 11) + 122 ≤ 84000 by omega), by rw [E.2.2.2]; exact (show (ce + 2) + 0 ≤ 601024 by omega), by rw [E.2.2.2]; exact (show (sl + 12) + 0 ≤ 7293034 by omega)⟩ (Nat.le_of_ble_eq_true rfl) (fun vv s11 hq => ?_) (fun ee s11 hq => ?_)
  rotate_left
  · obtain ⟨Is11, Fs11, e12, hv, hrs11, hps11⟩ := hq; cases hv
  obtain ⟨Is11, Fs11, e12, hv, hrs11, hps11⟩ := hq
  cases hv
  have Gs11 := fm_ts Gs7 Fs11 (by decide) (by decide)
  have JRLx_s11 : RLx s11 := RLx_fm Fs11 (by decide) JRLx_s7
  have ws11_70 : iI s11 70 = iI s7 70 := fm_i Fs11 (by decide)
  have ws11_107 : iI s11 107 = iI s7 107 := fm_i Fs11 (by decide)
  have ws11_12 : iI s11 12 = iI s7 12 := fm_i Fs11 (by decide)
  have ws11_89 : iI s11 89 = iI s7 89 := fm_i Fs11 (by decide)
  have wos11 : iO s11 = iO s7 := fm_o Fs11 (by decide)
  show WS k 599 [(5, .int (Int32.ofInt e8)), (0, .ref q1), (1, .ref (A 0)), (2, .ref (A 179)), (3, .ref (A 517)), (4, .int (Int32.ofInt i))] [.int (Int32.ofInt e12)] (Wd A dT s11) (ce + 2) (sl + 12)
  refine z_store X (lv' := [(6, .int (Int32.ofInt e12)), (5, .int (Int32.ofInt e8)), (0, .ref q1), (1, .ref (A 0)), (2, .ref (A 179)), (3, .ref (A 517)), (4, .int (Int32.ofInt i))]) (show cdA 350 599 = some (.istore 6, 2, 0, 0, 0) from rfl) (by decide) (fun _ h => h) ?_
  refine z_goto X (t := 1894) (show cdA 350 601 = some (.goto 1293, 3, 0, 0, 0) from rfl) (by decide) ?_
  refine w_widen (ce' := ce + 29) (sl' := sl + 222) (by omega) (by omega) ?_
  exact WS_lv (lv := [(0, .ref q1), (1, .ref (A 0)), (2, .ref (A 179)), (3, .ref (A 517)), (4, .int (Int32.ofInt i))]) (List.forall_mem_cons.mpr ⟨(List.Mem.tail _ (List.Mem.tail _ (List.Mem.head _))), (List.forall_mem_cons.mpr ⟨(List.Mem.tail _ (List.Mem.tail _ (List.Mem.tail _ (List.Mem.head _)))), (List.forall_mem_cons.mpr ⟨(List.Mem.tail _ (List.Mem.tail _ (List.Mem.tail _ (List.Mem.tail _ (List.Mem.head _))))), (List.forall_mem_cons.mpr ⟨(List.Mem.tail _ (List.Mem.tail _ (List.Mem.tail _ (List.Mem.tail _ (List.Mem.tail _ (List.Mem.head _)))))), (List.forall_mem_cons.mpr ⟨(List.Mem.tail _ (List.Mem.tail _ (List.Mem.tail _ (List.Mem.tail _ (List.Mem.tail _ (List.Mem.tail _ (List.Mem.head _))))))), (fun q h => absurd h List.not_mem_nil)⟩)⟩)⟩)⟩)⟩) (hk A _ Is11 JRLx_s11 (by omega) (by omega) (by omega))
theorem lc_9 (G : GX l s0 D tys a0 dT) (GR : RS0 s0) (SF : SF0 s0) (GT : TXs0 s0) {k : kx_T} (X : AX k 350 dT) (E : kL k = l ∧ kS0 k = s0 ∧ kD k = D ∧ kR k = room_1) {q1 L : Nat} {xs : Nat → Int32} (S : SX k q1 L xs) (hL : L ≤ 3072) (I : Bd s) (jR : RLx s) (p1 : iI s 89 = 1) (p2 : iI s 12 ≤ 8) (p3 : iI s 70 = iI s 107) {i : Int} (hi : 0 ≤ i ∧ i + 6 ≤ (L : Int)) {ce sl : Nat} (hce : ce + 29 ≤ 601024) (hsl : sl + 222 ≤ 7293034) (hk : ∀ (A : Nat → Nat) (t : PS), Bd t → RLx t → iI t 89 = 1 → iI t 12 ≤ 8 → iI t 70 = iI t 107 → WS k 1894 [(0, .ref q1), (1, .ref (A 0)), (2, .ref (A 179)), (3, .ref (A 517)), (4, .int (Int32.ofInt i))] [] (Wd A dT t) (ce + 29) (sl + 222)) : WS k 604 [(0, .ref q1), (1, .ref (A 0)), (2, .ref (A 179)), (3, .ref (A 517)), (4, .int (Int32.ofInt i))] [] (Wd A dT s) ce sl := by
  have F : Fm [73] [21, 1022, 1023, 1460, 228] s s := fm_rf _ _ s
  have b1 : (0 : Int) ≤ iI s 70 ∧ iI s 70 ≤ 40 := I.1 70
  have b2 : (0 : Int) ≤ iI s 107 ∧ iI s 107 ≤ 40 := I.1 107
  have b3 : (0 : Int) ≤ iI s 12 ∧ iI s 12 ≤ 9 := I.1 12
  have b4 : (1 : Int) ≤ iI s 89 ∧ iI s 89 ≤ 8 := I.1 89
  refine z_aload_n X (x := A 0) (show cdA 350 604 = some (.aload_n 1, 1, 0, 0, 0) from rfl) (List.Mem.tail _ (List.Mem.head _)) ?_
  refine z_aload_n X (x := q1) (show cdA 350 605 = some (.aload_n 0, 1, 0, 0, 0) from rfl) (List.Mem.head _) ?_
  refine z_load X (x := i) (show cdA 350 606 = some (.iload 4, 2, 0, 0, 0) from rfl) (List.Mem.tail _ (List.Mem.tail _ (List.Mem.tail _ (List.Mem.tail _ (List.Mem.head _))))) ?_
  refine z_const X (show cdA 350 608 = some (.iconst 1, 1, 0, 0, 0) from rfl) ?_
  refine z_add X (show cdA 350 609 = some (.iadd, 1, 0, 0, 0) from rfl) ?_
  refine z_sld X S hL (show cdA 350 610 = some (.iaload, 1, 0, 0, 0) from rfl) (show 0 ≤ (i + 1) ∧ (i + 1) < (L : Int) by omega) ?_
  have sr5 : rng (sc xs (i + 1)) := sc_rng
  refine z_aload_n X (x := q1) (show cdA 350 611 = some (.aload_n 0, 1, 0, 0, 0) from rfl) (List.Mem.head _) ?_
  refine z_load X (x := i) (show cdA 350 612 = some (.iload 4, 2, 0, 0, 0) from rfl) (List.Mem.tail _ (List.Mem.tail _ (List.Mem.tail _ (List.Mem.tail _ (List.Mem.head _))))) ?_
  refine z_const X (show cdA 350 614 = some (.iconst 2, 1, 0, 0, 0) from rfl) ?_
  refine z_add X (show cdA 350 615 = some (.iadd, 1, 0, 0, 0) from rfl) ?_
  refine z_sld X S hL (show cdA 350 616 = some (.iaload, 1, 0, 0, 0) from rfl) (show 0 ≤ (i + 2) ∧ (i + 2) < (L : Int) by omega) ?_
  have sr6 : rng (sc xs (i + 2)) := sc_rng
  refine z_aload_n X (x := q1) (show cdA 350 617 = some (.aload_n 0, 1, 0, 0, 0) from rfl) (List.Mem.head _) ?_
  refine z_load X (x := i) (show cdA 350 618 = some (.iload 4, 2, 0, 0, 0) from rfl) (List.Mem.tail _ (List.Mem.tail _ (List.Mem.tail _ (List.Mem.tail _ (List.Mem.head _))))) ?_
  refine z_const X (show cdA 350 620 = some (.iconst 3, 1, 0, 0, 0) from rfl) ?_
  refine z_add X (show cdA 350 621 = some (.iadd, 1, 0, 0, 0) from rfl) ?_
  refine z_sld X S hL (show cdA 350 622 = some (.iaload, 1, 0, 0, 0) from rfl) (show 0 ≤ (i + 3) ∧ (i + 3) < (L : Int) by omega) ?_
  have sr7 : rng (sc xs (i + 3)) := sc_rng
  refine z_aload_n X (x := A 517) (show cdA 350 623 = some (.aload_n 3, 1, 0, 0, 0) from rfl) (List.Mem.tail _ (List.Mem.tail _ (List.Mem.tail _ (List.Mem.head _)))) ?_
  refine z_callL X (rm := rmN 321) (As := [.ref (A 0), .int (Int32.ofInt (sc xs (i + 1))), .int (Int32.ofInt (sc xs (i + 2))), .int (Int32.ofInt (sc xs (i + 3))), .ref (A 517)]) (st := []) (show cdA 350 624 = some (.invokestatic 173, 3, 321, 6, 0) from rfl) (by decide) rfl (by rw [E.1, E.2.1, E.2.2.1]; exact lw_paint G I (by omega) (by omega) (by omega)) ⟨by rw [E.2.2.2]; exact (show 9 + 1 ≤ 2048 by omega), by rw [E.2.2.2]; exact (show 8 + (6 + 11) + 175 ≤ 84000 by omega), by rw [E.2.2.2]; exact (show ce + 4 ≤ 601024 by omega), by rw [E.2.2.2]; exact (show sl + 24 ≤ 7293034 by omega)⟩ (Nat.le_of_ble_eq_true rfl) (fun vv A s8 hA2 hq => ?_) (fun ee A s8 hA2 hq => ?_)
  rotate_left
  · obtain ⟨Is8, Fs8, e9, hv, hrs8, hps8⟩ := hq; cases hv
  obtain ⟨Is8, Fs8, e9, hv, hrs8, hps8⟩ := hq
  cases hv
  rw [← hA2 0 (by decide)]
  rw [← hA2 179 (by decide)]
  rw [← hA2 517 (by decide)]
  have Gs8 := fm_ts F Fs8 (by decide) (by decide)
  have JRLx_s8 : RLx s8 := RLx_fm Fs8 (by decide) jR
  have ws8_70 : iI s8 70 = iI s 70 := fm_i Fs8 (by decide)
  have ws8_107 : iI s8 107 = iI s 107 := fm_i Fs8 (by decide)
  have ws8_12 : iI s8 12 = iI s 12 := fm_i Fs8 (by decide)
  have ws8_89 : iI s8 89 = iI s 89 := fm_i Fs8 (by decide)
  show WS k 627 [(0, .ref q1), (1, .ref (A 0)), (2, .ref (A 179)), (3, .ref (A 517)), (4, .int (Int32.ofInt i))] [.int (Int32.ofInt e9)] (Wd A dT s8) (ce + 4) (sl + 24)
  refine z_store X (lv' := [(5, .int (Int32.ofInt e9)), (0, .ref q1), (1, .ref (A 0)), (2, .ref (A 179)), (3, .ref (A 517)), (4, .int (Int32.ofInt i))]) (show cdA 350 627 = some (.istore 5, 2, 0, 0, 0) from rfl) (by decide) (fun _ h => h) ?_
  refine z_aload_n X (x := A 179) (show cdA 350 629 = some (.aload_n 2, 1, 0, 0, 0) from rfl) (List.Mem.tail _ (List.Mem.tail _ (List.Mem.tail _ (List.Mem.head _)))) ?_
  refine z_aload_n X (x := q1) (show cdA 350 630 = some (.aload_n 0, 1, 0, 0, 0) from rfl) (List.Mem.tail _ (List.Mem.head _)) ?_
  refine z_load X (x := i) (show cdA 350 631 = some (.iload 4, 2, 0, 0, 0) from rfl) (List.Mem.tail _ (List.Mem.tail _ (List.Mem.tail _ (List.Mem.tail _ (List.Mem.tail _ (List.Mem.head _)))))) ?_
  refine z_const X (show cdA 350 633 = some (.iconst 1, 1, 0, 0, 0) from rfl) ?_
  refine z_add X (show cdA 350 634 = some (.iadd, 1, 0, 0, 0) from rfl) ?_
  refine z_sld X S hL (show cdA 350 635 = some (.iaload, 1, 0, 0, 0) from rfl) (show 0 ≤ (i + 1) ∧ (i + 1) < (L : Int) by omega) ?_
  have sr10 : rng (sc xs (i + 1)) := sc_rng
  refine z_aload_n X (x := q1) (show cdA 350 636 = some (.aload_n 0, 1, 0, 0, 0) from rfl) (List.Mem.tail _ (List.Mem.head _)) ?_
  refine z_load X (x := i) (show cdA 350 637 = some (.iload 4, 2, 0, 0, 0) from rfl) (List.Mem.tail _ (List.Mem.tail _ (List.Mem.tail _ (List.Mem.tail _ (List.Mem.tail _ (List.Mem.head _)))))) ?_
  refine z_const X (show cdA 350 639 = some (.iconst 2, 1, 0, 0, 0) from rfl) ?_
  refine z_add X (show cdA 350 640 = some (.iadd, 1, 0, 0, 0) from rfl) ?_
  refine z_sld X S hL (show cdA 350 641 = some (.iaload, 1, 0, 0, 0) from rfl) (show 0 ≤ (i + 2) ∧ (i + 2) < (L : Int) by omega) ?_
  have sr11 : rng (sc xs (i + 2)) := sc_rng
  refine z_aload_n X (x := q1) (show cdA 350 642 = some (.aload_n 0, 1, 0, 0, 0) from rfl) (List.Mem.tail _ (List.Mem.head _)) ?_
  refine z_load X (x := i) (show cdA 350 643 = some (.iload 4, 2, 0, 0, 0) from rfl) (List.Mem.tail _ (List.Mem.tail _ (List.Mem.tail _ (List.Mem.tail _ (List.Mem.tail _ (List.Mem.head _)))))) ?_
  refine z_const X (show cdA 350 645 = some (.iconst 3, 1, 0, 0, 0) from rfl) ?_
  refine z_add X (show cdA 350 646 = some (.iadd, 1, 0, 0, 0) from rfl) ?_
  refine z_sld X S hL (show cdA 350 647 = some (.iaload, 1, 0, 0, 0) from rfl) (show 0 ≤ (i + 3) ∧ (i + 3) < (L : Int) by omega) ?_
  have sr12 : rng (sc xs (i + 3)) := sc_rng
  refine z_callV X 179 (rm := rmN 235) (As := [.int (Int32.ofInt (sc xs (i + 1))), .int (Int32.ofInt (sc xs (i + 2))), .int (Int32.ofInt (sc xs (i + 3)))]) (st := []) (show cdA 350 648 = some (.invokevirtual 176, 3, 235, 0, 0) from rfl) rfl (by decide) rfl (by rw [E.1, E.2.1, E.2.2.1]; exact k_paint G Is8 (by first | exact ⟨sr10.1, sr10.2⟩ | omega) (by first | exact ⟨sr11.1, sr11.2⟩ | omega) (by first | exact ⟨sr12.1, sr12.2⟩ | omega)) ⟨by rw [E.2.2.2]; exact (show 7 + 1 ≤ 2048 by omega), by rw [E.2.2.2]; exact (show 8 + (6 + 11) + 122 ≤ 84000 by omega), by rw [E.2.2.2]; exact (show (ce + 4) + 0 ≤ 601024 by omega), by rw [E.2.2.2]; exact (show (sl + 24) + 0 ≤ 7293034 by omega)⟩ (Nat.le_of_ble_eq_true rfl) (fun vv s13 hq => ?_) (fun ee s13 hq => ?_)
  rotate_left
  · obtain ⟨Is13, Fs13, e14, hv, hrs13, hps13⟩ := hq; cases hv
  obtain ⟨Is13, Fs13, e14, hv, hrs13, hps13⟩ := hq
  cases hv
  have Gs13 := fm_ts Gs8 Fs13 (by decide) (by decide)
  have JRLx_s13 : RLx s13 := RLx_fm Fs13 (by decide) JRLx_s8
  have ws13_70 : iI s13 70 = iI s8 70 := fm_i Fs13 (by decide)
  have ws13_107 : iI s13 107 = iI s8 107 := fm_i Fs13 (by decide)
  have ws13_12 : iI s13 12 = iI s8 12 := fm_i Fs13 (by decide)
  have ws13_89 : iI s13 89 = iI s8 89 := fm_i Fs13 (by decide)
  have wos13 : iO s13 = iO s8 := fm_o Fs13 (by decide)
  show WS k 651 [(5, .int (Int32.ofInt e9)), (0, .ref q1), (1, .ref (A 0)), (2, .ref (A 179)), (3, .ref (A 517)), (4, .int (Int32.ofInt i))] [.int (Int32.ofInt e14)] (Wd A dT s13) (ce + 4) (sl + 24)
  refine z_store X (lv' := [(6, .int (Int32.ofInt e14)), (5, .int (Int32.ofInt e9)), (0, .ref q1), (1, .ref (A 0)), (2, .ref (A 179)), (3, .ref (A 517)), (4, .int (Int32.ofInt i))]) (show cdA 350 651 = some (.istore 6, 2, 0, 0, 0) from rfl) (by decide) (fun _ h => h) ?_
  refine z_goto X (t := 1894) (show cdA 350 653 = some (.goto 1241, 3, 0, 0, 0) from rfl) (by decide) ?_
  refine w_widen (ce' := ce + 29) (sl' := sl + 222) (by omega) (by omega) ?_
  exact WS_lv (lv := [(0, .ref q1), (1, .ref (A 0)), (2, .ref (A 179)), (3, .ref (A 517)), (4, .int (Int32.ofInt i))]) (List.forall_mem_cons.mpr ⟨(List.Mem.tail _ (List.Mem.tail _ (List.Mem.head _))), (List.forall_mem_cons.mpr ⟨(List.Mem.tail _ (List.Mem.tail _ (List.Mem.tail _ (List.Mem.head _)))), (List.forall_mem_cons.mpr ⟨(List.Mem.tail _ (List.Mem.tail _ (List.Mem.tail _ (List.Mem.tail _ (List.Mem.head _))))), (List.forall_mem_cons.mpr ⟨(List.Mem.tail _ (List.Mem.tail _ (List.Mem.tail _ (List.Mem.tail _ (List.Mem.tail _ (List.Mem.head _)))))), (List.forall_mem_cons.mpr ⟨(List.Mem.tail _ (List.Mem.tail _ (List.Mem.tail _ (List.Mem.tail _ (List.Mem.tail _ (List.Mem.tail _ (List.Mem.head _))))))), (fun q h => absurd h List.not_mem_nil)⟩)⟩)⟩)⟩)⟩) (hk A _ Is13 JRLx_s13 (by omega) (by omega) (by omega))
theorem lc_10 (G : GX l s0 D tys a0 dT) (GR : RS0 s0) (SF : SF0 s0) (GT : TXs0 s0) {k : kx_T} (X : AX k 350 dT) (E : kL k = l ∧ kS0 k = s0 ∧ kD k = D ∧ kR k = room_1) {q1 L : Nat} {xs : Nat → Int32} (S : SX k q1 L xs) (hL : L ≤ 3072) (I : Bd s) (jR : RLx s) (p1 : iI s 89 = 1) (p2 : iI s 12 ≤ 8) (p3 : iI s 70 = iI s 107) {i : Int} (hi : 0 ≤ i ∧ i + 6 ≤ (L : Int)) {ce sl : Nat} (hce : ce + 29 ≤ 601024) (hsl : sl + 222 ≤ 7293034) (hk : ∀ (A : Nat → Nat) (t : PS), Bd t → RLx t → iI t 89 = 1 → iI t 12 ≤ 8 → iI t 70 = iI t 107 → WS k 1894 [(0, .ref q1), (1, .ref (A 0)), (2, .ref (A 179)), (3, .ref (A 517)), (4, .int (Int32.ofInt i))] [] (Wd A dT t) (ce + 29) (sl + 222)) : WS k 656 [(0, .ref q1), (1, .ref (A 0)), (2, .ref (A 179)), (3, .ref (A 517)), (4, .int (Int32.ofInt i))] [] (Wd A dT s) ce sl := by
  have F : Fm [73] [24, 1460, 229] s s := fm_rf _ _ s
  have b1 : (0 : Int) ≤ iI s 70 ∧ iI s 70 ≤ 40 := I.1 70
  have b2 : (0 : Int) ≤ iI s 107 ∧ iI s 107 ≤ 40 := I.1 107
  have b3 : (0 : Int) ≤ iI s 12 ∧ iI s 12 ≤ 9 := I.1 12
  have b4 : (1 : Int) ≤ iI s 89 ∧ iI s 89 ≤ 8 := I.1 89
  refine z_aload_n X (x := A 0) (show cdA 350 656 = some (.aload_n 1, 1, 0, 0, 0) from rfl) (List.Mem.tail _ (List.Mem.head _)) ?_
  refine z_aload_n X (x := q1) (show cdA 350 657 = some (.aload_n 0, 1, 0, 0, 0) from rfl) (List.Mem.head _) ?_
  refine z_load X (x := i) (show cdA 350 658 = some (.iload 4, 2, 0, 0, 0) from rfl) (List.Mem.tail _ (List.Mem.tail _ (List.Mem.tail _ (List.Mem.tail _ (List.Mem.head _))))) ?_
  refine z_const X (show cdA 350 660 = some (.iconst 1, 1, 0, 0, 0) from rfl) ?_
  refine z_add X (show cdA 350 661 = some (.iadd, 1, 0, 0, 0) from rfl) ?_
  refine z_sld X S hL (show cdA 350 662 = some (.iaload, 1, 0, 0, 0) from rfl) (show 0 ≤ (i + 1) ∧ (i + 1) < (L : Int) by omega) ?_
  have sr5 : rng (sc xs (i + 1)) := sc_rng
  refine z_aload_n X (x := q1) (show cdA 350 663 = some (.aload_n 0, 1, 0, 0, 0) from rfl) (List.Mem.head _) ?_
  refine z_load X (x := i) (show cdA 350 664 = some (.iload 4, 2, 0, 0, 0) from rfl) (List.Mem.tail _ (List.Mem.tail _ (List.Mem.tail _ (List.Mem.tail _ (List.Mem.head _))))) ?_
  refine z_const X (show cdA 350 666 = some (.iconst 2, 1, 0, 0, 0) from rfl) ?_
  refine z_add X (show cdA 350 667 = some (.iadd, 1, 0, 0, 0) from rfl) ?_
  refine z_sld X S hL (show cdA 350 668 = some (.iaload, 1, 0, 0, 0) from rfl) (show 0 ≤ (i + 2) ∧ (i + 2) < (L : Int) by omega) ?_
  have sr6 : rng (sc xs (i + 2)) := sc_rng
  refine z_aload_n X (x := A 517) (show cdA 350 669 = some (.aload_n 3, 1, 0, 0, 0) from rfl) (List.Mem.tail _ (List.Mem.tail _ (List.Mem.tail _ (List.Mem.head _)))) ?_
  refine z_callL X (rm := rmN 322) (As := [.ref (A 0), .int (Int32.ofInt (sc xs (i + 1))), .int (Int32.ofInt (sc xs (i + 2))), .ref (A 517)]) (st := []) (show cdA 350 670 = some (.invokestatic 177, 3, 322, 6, 0) from rfl) (by decide) rfl (by rw [E.1, E.2.1, E.2.2.1]; exact lw_limit G I (by omega) (by omega)) ⟨by rw [E.2.2.2]; exact (show 9 + 1 ≤ 2048 by omega), by rw [E.2.2.2]; exact (show 8 + (5 + 11) + 167 ≤ 84000 by omega), by rw [E.2.2.2]; exact (show ce + 2 ≤ 601024 by omega), by rw [E.2.2.2]; exact (show sl + 12 ≤ 7293034 by omega)⟩ (Nat.le_of_ble_eq_true rfl) (fun vv A s7 hA2 hq => ?_) (fun ee A s7 hA2 hq => ?_)
  rotate_left
  · obtain ⟨Is7, Fs7, e8, hv, hrs7, hps7⟩ := hq; cases hv
  obtain ⟨Is7, Fs7, e8, hv, hrs7, hps7⟩ := hq
  cases hv
  rw [← hA2 0 (by decide)]
  rw [← hA2 179 (by decide)]
  rw [← hA2 517 (by decide)]
  have Gs7 := fm_ts F Fs7 (by decide) (by decide)
  have JRLx_s7 : RLx s7 := RLx_fm Fs7 (by decide) jR
  have ws7_70 : iI s7 70 = iI s 70 := fm_i Fs7 (by decide)
  have ws7_107 : iI s7 107 = iI s 107 := fm_i Fs7 (by decide)
  have ws7_12 : iI s7 12 = iI s 12 := fm_i Fs7 (by decide)
  have ws7_89 : iI s7 89 = iI s 89 := fm_i Fs7 (by decide)
  show WS k 673 [(0, .ref q1), (1, .ref (A 0)), (2, .ref (A 179)), (3, .ref (A 517)), (4, .int (Int32.ofInt i))] [.int (Int32.ofInt e8)] (Wd A dT s7) (ce + 2) (sl + 12)
  refine z_store X (lv' := [(5, .int (Int32.ofInt e8)), (0, .ref q1), (1, .ref (A 0)), (2, .ref (A 179)), (3, .ref (A 517)), (4, .int (Int32.ofInt i))]) (show cdA 350 673 = some (.istore 5, 2, 0, 0, 0) from rfl) (by decide) (fun _ h => h) ?_
  refine z_aload_n X (x := A 179) (show cdA 350 675 = some (.aload_n 2, 1, 0, 0, 0) from rfl) (List.Mem.tail _ (List.Mem.tail _ (List.Mem.tail _ (List.Mem.head _)))) ?_
  refine z_aload_n X (x := q1) (show cdA 350 676 = some (.aload_n 0, 1, 0, 0, 0) from rfl) (List.Mem.tail _ (List.Mem.head _)) ?_
  refine z_load X (x := i) (show cdA 350 677 = some (.iload 4, 2, 0, 0, 0) from rfl) (List.Mem.tail _ (List.Mem.tail _ (List.Mem.tail _ (List.Mem.tail _ (List.Mem.tail _ (List.Mem.head _)))))) ?_
  refine z_const X (show cdA 350 679 = some (.iconst 1, 1, 0, 0, 0) from rfl) ?_
  refine z_add X (show cdA 350 680 = some (.iadd, 1, 0, 0, 0) from rfl) ?_
  refine z_sld X S hL (show cdA 350 681 = some (.iaload, 1, 0, 0, 0) from rfl) (show 0 ≤ (i + 1) ∧ (i + 1) < (L : Int) by omega) ?_
  have sr9 : rng (sc xs (i + 1)) := sc_rng
  refine z_aload_n X (x := q1) (show cdA 350 682 = some (.aload_n 0, 1, 0, 0, 0) from rfl) (List.Mem.tail _ (List.Mem.head _)) ?_
  refine z_load X (x := i) (show cdA 350 683 = some (.iload 4, 2, 0, 0, 0) from rfl) (List.Mem.tail _ (List.Mem.tail _ (List.Mem.tail _ (List.Mem.tail _ (List.Mem.tail _ (List.Mem.head _)))))) ?_
  refine z_const X (show cdA 350 685 = some (.iconst 2, 1, 0, 0, 0) from rfl) ?_
  refine z_add X (show cdA 350 686 = some (.iadd, 1, 0, 0, 0) from rfl) ?_
  refine z_sld X S hL (show cdA 350 687 = some (.iaload, 1, 0, 0, 0) from rfl) (show 0 ≤ (i + 2) ∧ (i + 2) < (L : Int) by omega) ?_
  have sr10 : rng (sc xs (i + 2)) := sc_rng
  refine z_callV X 179 (rm := rmN 236) (As := [.int (Int32.ofInt (sc xs (i + 1))), .int (Int32.ofInt (sc xs (i + 2)))]) (st := []) (show cdA 350 688 = some (.invokevirtual 179, 3, 236, 0, 0) from rfl) rfl (by decide) rfl (by rw [E.1, E.2.1, E.2.2.1]; exact k_limit G Is7 (by first | exact ⟨sr9.1, sr9.2⟩ | omega) (by first | exact ⟨sr10.1, sr10.2⟩ | omega)) ⟨by rw [E.2.2.2]; exact (show 7 + 1 ≤ 2048 by omega), by rw [E.2.2.2]; exact (show 8 + (4 + 11) + 122 ≤ 84000 by omega), by rw [E.2.2.2]; exact (show (ce + 2) + 0 ≤ 601024 by omega), by rw [E.2.2.2]; exact (show (sl + 12) + 0 ≤ 7293034 by omega)⟩ (Nat.le_of_ble_eq_true rfl) (fun vv s11 hq => ?_) (fun ee s11 hq => ?_)
  rotate_left
  · obtain ⟨Is11, Fs11, e12, hv, hrs11, hps11⟩ := hq; cases hv
  obtain ⟨Is11, Fs11, e12, hv, hrs11, hps11⟩ := hq
  cases hv
  have Gs11 := fm_ts Gs7 Fs11 (by decide) (by decide)
  have JRLx_s11 : RLx s11 := RLx_fm Fs11 (by decide) JRLx_s7
  have ws11_70 : iI s11 70 = iI s7 70 := fm_i Fs11 (by decide)
  have ws11_107 : iI s11 107 = iI s7 107 := fm_i Fs11 (by decide)
  have ws11_12 : iI s11 12 = iI s7 12 := fm_i Fs11 (by decide)
  have ws11_89 : iI s11 89 = iI s7 89 := fm_i Fs11 (by decide)
  have wos11 : iO s11 = iO s7 := fm_o Fs11 (by decide)
  show WS k 691 [(5, .int (Int32.ofInt e8)), (0, .ref q1), (1, .ref (A 0)), (2, .ref (A 179)), (3, .ref (A 517)), (4, .int (Int32.ofInt i))] [.int (Int32.ofInt e12)] (Wd A dT s11) (ce + 2) (sl + 12)
  refine z_store X (lv' := [(6, .int (Int32.ofInt e12)), (5, .int (Int32.ofInt e8)), (0, .ref q1), (1, .ref (A 0)), (2, .ref (A 179)), (3, .ref (A 517)), (4, .int (Int32.ofInt i))]) (show cdA 350 691 = some (.istore 6, 2, 0, 0, 0) from rfl) (by decide) (fun _ h => h) ?_
  refine z_goto X (t := 1894) (show cdA 350 693 = some (.goto 1201, 3, 0, 0, 0) from rfl) (by decide) ?_
  refine w_widen (ce' := ce + 29) (sl' := sl + 222) (by omega) (by omega) ?_
  exact WS_lv (lv := [(0, .ref q1), (1, .ref (A 0)), (2, .ref (A 179)), (3, .ref (A 517)), (4, .int (Int32.ofInt i))]) (List.forall_mem_cons.mpr ⟨(List.Mem.tail _ (List.Mem.tail _ (List.Mem.head _))), (List.forall_mem_cons.mpr ⟨(List.Mem.tail _ (List.Mem.tail _ (List.Mem.tail _ (List.Mem.head _)))), (List.forall_mem_cons.mpr ⟨(List.Mem.tail _ (List.Mem.tail _ (List.Mem.tail _ (List.Mem.tail _ (List.Mem.head _))))), (List.forall_mem_cons.mpr ⟨(List.Mem.tail _ (List.Mem.tail _ (List.Mem.tail _ (List.Mem.tail _ (List.Mem.tail _ (List.Mem.head _)))))), (List.forall_mem_cons.mpr ⟨(List.Mem.tail _ (List.Mem.tail _ (List.Mem.tail _ (List.Mem.tail _ (List.Mem.tail _ (List.Mem.tail _ (List.Mem.head _))))))), (fun q h => absurd h List.not_mem_nil)⟩)⟩)⟩)⟩)⟩) (hk A _ Is11 JRLx_s11 (by omega) (by omega) (by omega))
theorem lc_11 (G : GX l s0 D tys a0 dT) (GR : RS0 s0) (SF : SF0 s0) (GT : TXs0 s0) {k : kx_T} (X : AX k 350 dT) (E : kL k = l ∧ kS0 k = s0 ∧ kD k = D ∧ kR k = room_1) {q1 L : Nat} {xs : Nat → Int32} (S : SX k q1 L xs) (hL : L ≤ 3072) (I : Bd s) (jR : RLx s) (p1 : iI s 89 = 1) (p2 : iI s 12 ≤ 8) (p3 : iI s 70 = iI s 107) {i : Int} (hi : 0 ≤ i ∧ i + 6 ≤ (L : Int)) {ce sl : Nat} (hce : ce + 29 ≤ 601024) (hsl : sl + 222 ≤ 7293034) (hk : ∀ (A : Nat → Nat) (t : PS), Bd t → RLx t → iI t 89 = 1 → iI t 12 ≤ 8 → iI t 70 = iI t 107 → WS k 1894 [(0, .ref q1), (1, .ref (A 0)), (2, .ref (A 179)), (3, .ref (A 517)), (4, .int (Int32.ofInt i))] [] (Wd A dT t) (ce + 29) (sl + 222)) : WS k 696 [(0, .ref q1), (1, .ref (A 0)), (2, .ref (A 179)), (3, .ref (A 517)), (4, .int (Int32.ofInt i))] [] (Wd A dT s) ce sl := by
  have F : Fm [22, 23, 73, 77, 75, 78, 79, 80, 81] [33, 26, 27, 28, 29, 30, 31, 32, 20, 1460, 202, 204, 205, 206, 207, 208, 209, 210, 211, 212, 213, 214, 215, 216, 217, 218, 219, 220, 221, 222, 223, 224, 225, 226, 227, 203, 161, 230] s s := fm_rf _ _ s
  have b1 : (0 : Int) ≤ iI s 70 ∧ iI s 70 ≤ 40 := I.1 70
  have b2 : (0 : Int) ≤ iI s 107 ∧ iI s 107 ≤ 40 := I.1 107
  have b3 : (0 : Int) ≤ iI s 12 ∧ iI s 12 ≤ 9 := I.1 12
  have b4 : (1 : Int) ≤ iI s 89 ∧ iI s 89 ≤ 8 := I.1 89
  refine z_aload_n X (x := A 0) (show cdA 350 696 = some (.aload_n 1, 1, 0, 0, 0) from rfl) (List.Mem.tail _ (List.Mem.head _)) ?_
  refine z_aload_n X (x := q1) (show cdA 350 697 = some (.aload_n 0, 1, 0, 0, 0) from rfl) (List.Mem.head _) ?_
  refine z_load X (x := i) (show cdA 350 698 = some (.iload 4, 2, 0, 0, 0) from rfl) (List.Mem.tail _ (List.Mem.tail _ (List.Mem.tail _ (List.Mem.tail _ (List.Mem.head _))))) ?_
  refine z_const X (show cdA 350 700 = some (.iconst 1, 1, 0, 0, 0) from rfl) ?_
  refine z_add X (show cdA 350 701 = some (.iadd, 1, 0, 0, 0) from rfl) ?_
  refine z_sld X S hL (show cdA 350 702 = some (.iaload, 1, 0, 0, 0) from rfl) (show 0 ≤ (i + 1) ∧ (i + 1) < (L : Int) by omega) ?_
  have sr5 : rng (sc xs (i + 1)) := sc_rng
  refine z_aload_n X (x := q1) (show cdA 350 703 = some (.aload_n 0, 1, 0, 0, 0) from rfl) (List.Mem.head _) ?_
  refine z_load X (x := i) (show cdA 350 704 = some (.iload 4, 2, 0, 0, 0) from rfl) (List.Mem.tail _ (List.Mem.tail _ (List.Mem.tail _ (List.Mem.tail _ (List.Mem.head _))))) ?_
  refine z_const X (show cdA 350 706 = some (.iconst 2, 1, 0, 0, 0) from rfl) ?_
  refine z_add X (show cdA 350 707 = some (.iadd, 1, 0, 0, 0) from rfl) ?_
  refine z_sld X S hL (show cdA 350 708 = some (.iaload, 1, 0, 0, 0) from rfl) (show 0 ≤ (i + 2) ∧ (i + 2) < (L : Int) by omega) ?_
  have sr6 : rng (sc xs (i + 2)) := sc_rng
  refine z_aload_n X (x := q1) (show cdA 350 709 = some (.aload_n 0, 1, 0, 0, 0) from rfl) (List.Mem.head _) ?_
  refine z_load X (x := i) (show cdA 350 710 = some (.iload 4, 2, 0, 0, 0) from rfl) (List.Mem.tail _ (List.Mem.tail _ (List.Mem.tail _ (List.Mem.tail _ (List.Mem.head _))))) ?_
  refine z_const X (show cdA 350 712 = some (.iconst 3, 1, 0, 0, 0) from rfl) ?_
  refine z_add X (show cdA 350 713 = some (.iadd, 1, 0, 0, 0) from rfl) ?_
  refine z_sld X S hL (show cdA 350 714 = some (.iaload, 1, 0, 0, 0) from rfl) (show 0 ≤ (i + 3) ∧ (i + 3) < (L : Int) by omega) ?_
  have sr7 : rng (sc xs (i + 3)) := sc_rng
  refine z_aload_n X (x := A 517) (show cdA 350 715 = some (.aload_n 3, 1, 0, 0, 0) from rfl) (List.Mem.tail _ (List.Mem.tail _ (List.Mem.tail _ (List.Mem.head _)))) ?_
  refine z_callL X (rm := rmN 323) (As := [.ref (A 0), .int (Int32.ofInt (sc xs (i + 1))), .int (Int32.ofInt (sc xs (i + 2))), .int (Int32.ofInt (sc xs (i + 3))), .ref (A 517)]) (st := []) (show cdA 350 716 = some (.invokestatic 180, 3, 323, 6, 0) from rfl) (by decide) rfl (by rw [E.1, E.2.1, E.2.2.1]; exact lw_hears G I (by omega) (by omega) (by omega)) ⟨by rw [E.2.2.2]; exact (show 11 + 1 ≤ 2048 by omega), by rw [E.2.2.2]; exact (show 8 + (6 + 11) + 229 ≤ 84000 by omega), by rw [E.2.2.2]; exact (show ce + 3 ≤ 601024 by omega), by rw [E.2.2.2]; exact (show sl + 18 ≤ 7293034 by omega)⟩ (Nat.le_of_ble_eq_true rfl) (fun vv A s8 hA2 hq => ?_) (fun ee A s8 hA2 hq => ?_)
  rotate_left
  · obtain ⟨Is8, Fs8, e9, hv, hrs8, hps8⟩ := hq; cases hv
  obtain ⟨Is8, Fs8, e9, hv, hrs8, hps8⟩ := hq
  cases hv
  rw [← hA2 0 (by decide)]
  rw [← hA2 179 (by decide)]
  rw [← hA2 517 (by decide)]
  have Gs8 := fm_ts F Fs8 (by decide) (by decide)
  have JRLx_s8 : RLx s8 := RLx_fm Fs8 (by decide) jR
  have ws8_70 : iI s8 70 = iI s 70 := fm_i Fs8 (by decide)
  have ws8_107 : iI s8 107 = iI s 107 := fm_i Fs8 (by decide)
  have ws8_12 : iI s8 12 = iI s 12 := fm_i Fs8 (by decide)
  have ws8_89 : iI s8 89 = iI s 89 := fm_i Fs8 (by decide)
  show WS k 719 [(0, .ref q1), (1, .ref (A 0)), (2, .ref (A 179)), (3, .ref (A 517)), (4, .int (Int32.ofInt i))] [.int (Int32.ofInt e9)] (Wd A dT s8) (ce + 3) (sl + 18)
  refine z_store X (lv' := [(5, .int (Int32.ofInt e9)), (0, .ref q1), (1, .ref (A 0)), (2, .ref (A 179)), (3, .ref (A 517)), (4, .int (Int32.ofInt i))]) (show cdA 350 719 = some (.istore 5, 2, 0, 0, 0) from rfl) (by decide) (fun _ h => h) ?_
  refine z_aload_n X (x := A 179) (show cdA 350 721 = some (.aload_n 2, 1, 0, 0, 0) from rfl) (List.Mem.tail _ (List.Mem.tail _ (List.Mem.tail _ (List.Mem.head _)))) ?_
  refine z_aload_n X (x := q1) (show cdA 350 722 = some (.aload_n 0, 1, 0, 0, 0) from rfl) (List.Mem.tail _ (List.Mem.head _)) ?_
  refine z_load X (x := i) (show cdA 350 723 = some (.iload 4, 2, 0, 0, 0) from rfl) (List.Mem.tail _ (List.Mem.tail _ (List.Mem.tail _ (List.Mem.tail _ (List.Mem.tail _ (List.Mem.head _)))))) ?_
  refine z_const X (show cdA 350 725 = some (.iconst 1, 1, 0, 0, 0) from rfl) ?_
  refine z_add X (show cdA 350 726 = some (.iadd, 1, 0, 0, 0) from rfl) ?_
  refine z_sld X S hL (show cdA 350 727 = some (.iaload, 1, 0, 0, 0) from rfl) (show 0 ≤ (i + 1) ∧ (i + 1) < (L : Int) by omega) ?_
  have sr10 : rng (sc xs (i + 1)) := sc_rng
  refine z_aload_n X (x := q1) (show cdA 350 728 = some (.aload_n 0, 1, 0, 0, 0) from rfl) (List.Mem.tail _ (List.Mem.head _)) ?_
  refine z_load X (x := i) (show cdA 350 729 = some (.iload 4, 2, 0, 0, 0) from rfl) (List.Mem.tail _ (List.Mem.tail _ (List.Mem.tail _ (List.Mem.tail _ (List.Mem.tail _ (List.Mem.head _)))))) ?_
  refine z_const X (show cdA 350 731 = some (.iconst 2, 1, 0, 0, 0) from rfl) ?_
  refine z_add X (show cdA 350 732 = some (.iadd, 1, 0, 0, 0) from rfl) ?_
  refine z_sld X S hL (show cdA 350 733 = some (.iaload, 1, 0, 0, 0) from rfl) (show 0 ≤ (i + 2) ∧ (i + 2) < (L : Int) by omega) ?_
  have sr11 : rng (sc xs (i + 2)) := sc_rng
  refine z_aload_n X (x := q1) (show cdA 350 734 = some (.aload_n 0, 1, 0, 0, 0) from rfl) (List.Mem.tail _ (List.Mem.head _)) ?_
  refine z_load X (x := i) (show cdA 350 735 = some (.iload 4, 2, 0, 0, 0) from rfl) (List.Mem.tail _ (List.Mem.tail _ (List.Mem.tail _ (List.Mem.tail _ (List.Mem.tail _ (List.Mem.head _)))))) ?_
  refine z_const X (show cdA 350 737 = some (.iconst 3, 1, 0, 0, 0) from rfl) ?_
  refine z_add X (show cdA 350 738 = some (.iadd, 1, 0, 0, 0) from rfl) ?_
  refine z_sld X S hL (show cdA 350 739 = some (.iaload, 1, 0, 0, 0) from rfl) (show 0 ≤ (i + 3) ∧ (i + 3) < (L : Int) by omega) ?_
  have sr12 : rng (sc xs (i + 3)) := sc_rng
  refine z_callV X 179 (rm := rmN 237) (As := [.int (Int32.ofInt (sc xs (i + 1))), .int (Int32.ofInt (sc xs (i + 2))), .int (Int32.ofInt (sc xs (i + 3)))]) (st := []) (show cdA 350 740 = some (.invokevirtual 182, 3, 237, 0, 0) from rfl) rfl (by decide) rfl (by rw [E.1, E.2.1, E.2.2.1]; exact k_hears G Is8 JRLx_s8 (by first | exact ⟨sr10.1, sr10.2⟩ | omega) (by first | exact ⟨sr11.1, sr11.2⟩ | omega) (by first | exact ⟨sr12.1, sr12.2⟩ | omega)) ⟨by rw [E.2.2.2]; exact (show 37 + 1 ≤ 2048 by omega), by rw [E.2.2.2]; exact (show 8 + (5 + 11) + 1578 ≤ 84000 by omega), by rw [E.2.2.2]; exact (show (ce + 3) + 0 ≤ 601024 by omega), by rw [E.2.2.2]; exact (show (sl + 18) + 0 ≤ 7293034 by omega)⟩ (Nat.le_of_ble_eq_true rfl) (fun vv s13 hq => ?_) (fun ee s13 hq => ?_)
  rotate_left
  · obtain ⟨Is13, Fs13, JRLx_s13, e14, hv, hrs13, hps13⟩ := hq; cases hv
  obtain ⟨Is13, Fs13, JRLx_s13, e14, hv, hrs13, hps13⟩ := hq
  cases hv
  have Gs13 := fm_ts Gs8 Fs13 (by decide) (by decide)
  have JRLx_s13 : RLx s13 := RLx_fm Fs13 (by decide) JRLx_s8
  have ws13_70 : iI s13 70 = iI s8 70 := fm_i Fs13 (by decide)
  have ws13_107 : iI s13 107 = iI s8 107 := fm_i Fs13 (by decide)
  have ws13_12 : iI s13 12 = iI s8 12 := fm_i Fs13 (by decide)
  have ws13_89 : iI s13 89 = iI s8 89 := fm_i Fs13 (by decide)
  have wos13 : iO s13 = iO s8 := fm_o Fs13 (by decide)
  show WS k 743 [(5, .int (Int32.ofInt e9)), (0, .ref q1), (1, .ref (A 0)), (2, .ref (A 179)), (3, .ref (A 517)), (4, .int (Int32.ofInt i))] [.int (Int32.ofInt e14)] (Wd A dT s13) (ce + 3) (sl + 18)
  refine z_store X (lv' := [(6, .int (Int32.ofInt e14)), (5, .int (Int32.ofInt e9)), (0, .ref q1), (1, .ref (A 0)), (2, .ref (A 179)), (3, .ref (A 517)), (4, .int (Int32.ofInt i))]) (show cdA 350 743 = some (.istore 6, 2, 0, 0, 0) from rfl) (by decide) (fun _ h => h) ?_
  refine z_goto X (t := 1894) (show cdA 350 745 = some (.goto 1149, 3, 0, 0, 0) from rfl) (by decide) ?_
  refine w_widen (ce' := ce + 29) (sl' := sl + 222) (by omega) (by omega) ?_
  exact WS_lv (lv := [(0, .ref q1), (1, .ref (A 0)), (2, .ref (A 179)), (3, .ref (A 517)), (4, .int (Int32.ofInt i))]) (List.forall_mem_cons.mpr ⟨(List.Mem.tail _ (List.Mem.tail _ (List.Mem.head _))), (List.forall_mem_cons.mpr ⟨(List.Mem.tail _ (List.Mem.tail _ (List.Mem.tail _ (List.Mem.head _)))), (List.forall_mem_cons.mpr ⟨(List.Mem.tail _ (List.Mem.tail _ (List.Mem.tail _ (List.Mem.tail _ (List.Mem.head _))))), (List.forall_mem_cons.mpr ⟨(List.Mem.tail _ (List.Mem.tail _ (List.Mem.tail _ (List.Mem.tail _ (List.Mem.tail _ (List.Mem.head _)))))), (List.forall_mem_cons.mpr ⟨(List.Mem.tail _ (List.Mem.tail _ (List.Mem.tail _ (List.Mem.tail _ (List.Mem.tail _ (List.Mem.tail _ (List.Mem.head _))))))), (fun q h => absurd h List.not_mem_nil)⟩)⟩)⟩)⟩)⟩) (hk A _ Is13 JRLx_s13 (by omega) (by omega) (by omega))
theorem lc_12 (G : GX l s0 D tys a0 dT) (GR : RS0 s0) (SF : SF0 s0) (GT : TXs0 s0) {k : kx_T} (X : AX k 350 dT) (E : kL k = l ∧ kS0 k = s0 ∧ kD k = D ∧ kR k = room_1) {q1 L : Nat} {xs : Nat → Int32} (S : SX k q1 L xs) (hL : L ≤ 3072) (I : Bd s) (jR : RLx s) (p1 : iI s 89 = 1) (p2 : iI s 12 ≤ 8) (p3 : iI s 70 = iI s 107) {i : Int} (hi : 0 ≤ i ∧ i + 6 ≤ (L : Int)) {ce sl : Nat} (hce : ce + 29 ≤ 601024) (hsl : sl + 222 ≤ 7293034) (hk : ∀ (A : Nat → Nat) (t : PS), Bd t → RLx t → iI t 89 = 1 → iI t 12 ≤ 8 → iI t 70 = iI t 107 → WS k 1894 [(0, .ref q1), (1, .ref (A 0)), (2, .ref (A 179)), (3, .ref (A 517)), (4, .int (Int32.ofInt i))] [] (Wd A dT t) (ce + 29) (sl + 222)) : WS k 748 [(0, .ref q1), (1, .ref (A 0)), (2, .ref (A 179)), (3, .ref (A 517)), (4, .int (Int32.ofInt i))] [] (Wd A dT s) ce sl := by
  have F : Fm [22, 23, 24, 73, 77, 75, 78, 79, 80, 81] [33, 26, 27, 28, 29, 30, 31, 32, 20, 1460, 202, 204, 205, 206, 207, 208, 209, 210, 211, 212, 213, 214, 215, 216, 217, 218, 219, 220, 221, 222, 223, 224, 225, 226, 227, 203, 161, 230] s s := fm_rf _ _ s
  have b1 : (0 : Int) ≤ iI s 70 ∧ iI s 70 ≤ 40 := I.1 70
  have b2 : (0 : Int) ≤ iI s 107 ∧ iI s 107 ≤ 40 := I.1 107
  have b3 : (0 : Int) ≤ iI s 12 ∧ iI s 12 ≤ 9 := I.1 12
  have b4 : (1 : Int) ≤ iI s 89 ∧ iI s 89 ≤ 8 := I.1 89
  refine z_aload_n X (x := A 0) (show cdA 350 748 = some (.aload_n 1, 1, 0, 0, 0) from rfl) (List.Mem.tail _ (List.Mem.head _)) ?_
  refine z_aload_n X (x := q1) (show cdA 350 749 = some (.aload_n 0, 1, 0, 0, 0) from rfl) (List.Mem.head _) ?_
  refine z_load X (x := i) (show cdA 350 750 = some (.iload 4, 2, 0, 0, 0) from rfl) (List.Mem.tail _ (List.Mem.tail _ (List.Mem.tail _ (List.Mem.tail _ (List.Mem.head _))))) ?_
  refine z_const X (show cdA 350 752 = some (.iconst 1, 1, 0, 0, 0) from rfl) ?_
  refine z_add X (show cdA 350 753 = some (.iadd, 1, 0, 0, 0) from rfl) ?_
  refine z_sld X S hL (show cdA 350 754 = some (.iaload, 1, 0, 0, 0) from rfl) (show 0 ≤ (i + 1) ∧ (i + 1) < (L : Int) by omega) ?_
  have sr5 : rng (sc xs (i + 1)) := sc_rng
  refine z_aload_n X (x := q1) (show cdA 350 755 = some (.aload_n 0, 1, 0, 0, 0) from rfl) (List.Mem.head _) ?_
  refine z_load X (x := i) (show cdA 350 756 = some (.iload 4, 2, 0, 0, 0) from rfl) (List.Mem.tail _ (List.Mem.tail _ (List.Mem.tail _ (List.Mem.tail _ (List.Mem.head _))))) ?_
  refine z_const X (show cdA 350 758 = some (.iconst 2, 1, 0, 0, 0) from rfl) ?_
  refine z_add X (show cdA 350 759 = some (.iadd, 1, 0, 0, 0) from rfl) ?_
  refine z_sld X S hL (show cdA 350 760 = some (.iaload, 1, 0, 0, 0) from rfl) (show 0 ≤ (i + 2) ∧ (i + 2) < (L : Int) by omega) ?_
  have sr6 : rng (sc xs (i + 2)) := sc_rng
  refine z_aload_n X (x := A 517) (show cdA 350 761 = some (.aload_n 3, 1, 0, 0, 0) from rfl) (List.Mem.tail _ (List.Mem.tail _ (List.Mem.tail _ (List.Mem.head _)))) ?_
  refine z_callL X (rm := rmN 324) (As := [.ref (A 0), .int (Int32.ofInt (sc xs (i + 1))), .int (Int32.ofInt (sc xs (i + 2))), .ref (A 517)]) (st := []) (show cdA 350 762 = some (.invokestatic 183, 3, 324, 6, 0) from rfl) (by decide) rfl (by rw [E.1, E.2.1, E.2.2.1]; exact lw_peak G I (by omega) (by omega)) ⟨by rw [E.2.2.2]; exact (show 11 + 1 ≤ 2048 by omega), by rw [E.2.2.2]; exact (show 8 + (5 + 11) + 228 ≤ 84000 by omega), by rw [E.2.2.2]; exact (show ce + 2 ≤ 601024 by omega), by rw [E.2.2.2]; exact (show sl + 12 ≤ 7293034 by omega)⟩ (Nat.le_of_ble_eq_true rfl) (fun vv A s7 hA2 hq => ?_) (fun ee A s7 hA2 hq => ?_)
  rotate_left
  · obtain ⟨Is7, Fs7, e8, hv, hrs7, hps7⟩ := hq; cases hv
  obtain ⟨Is7, Fs7, e8, hv, hrs7, hps7⟩ := hq
  cases hv
  rw [← hA2 0 (by decide)]
  rw [← hA2 179 (by decide)]
  rw [← hA2 517 (by decide)]
  have Gs7 := fm_ts F Fs7 (by decide) (by decide)
  have JRLx_s7 : RLx s7 := RLx_fm Fs7 (by decide) jR
  have ws7_70 : iI s7 70 = iI s 70 := fm_i Fs7 (by decide)
  have ws7_107 : iI s7 107 = iI s 107 := fm_i Fs7 (by decide)
  have ws7_12 : iI s7 12 = iI s 12 := fm_i Fs7 (by decide)
  have ws7_89 : iI s7 89 = iI s 89 := fm_i Fs7 (by decide)
  show WS k 765 [(0, .ref q1), (1, .ref (A 0)), (2, .ref (A 179)), (3, .ref (A 517)), (4, .int (Int32.ofInt i))] [.int (Int32.ofInt e8)] (Wd A dT s7) (ce + 2) (sl + 12)
  refine z_store X (lv' := [(5, .int (Int32.ofInt e8)), (0, .ref q1), (1, .ref (A 0)), (2, .ref (A 179)), (3, .ref (A 517)), (4, .int (Int32.ofInt i))]) (show cdA 350 765 = some (.istore 5, 2, 0, 0, 0) from rfl) (by decide) (fun _ h => h) ?_
  refine z_aload_n X (x := A 179) (show cdA 350 767 = some (.aload_n 2, 1, 0, 0, 0) from rfl) (List.Mem.tail _ (List.Mem.tail _ (List.Mem.tail _ (List.Mem.head _)))) ?_
  refine z_aload_n X (x := q1) (show cdA 350 768 = some (.aload_n 0, 1, 0, 0, 0) from rfl) (List.Mem.tail _ (List.Mem.head _)) ?_
  refine z_load X (x := i) (show cdA 350 769 = some (.iload 4, 2, 0, 0, 0) from rfl) (List.Mem.tail _ (List.Mem.tail _ (List.Mem.tail _ (List.Mem.tail _ (List.Mem.tail _ (List.Mem.head _)))))) ?_
  refine z_const X (show cdA 350 771 = some (.iconst 1, 1, 0, 0, 0) from rfl) ?_
  refine z_add X (show cdA 350 772 = some (.iadd, 1, 0, 0, 0) from rfl) ?_
  refine z_sld X S hL (show cdA 350 773 = some (.iaload, 1, 0, 0, 0) from rfl) (show 0 ≤ (i + 1) ∧ (i + 1) < (L : Int) by omega) ?_
  have sr9 : rng (sc xs (i + 1)) := sc_rng
  refine z_aload_n X (x := q1) (show cdA 350 774 = some (.aload_n 0, 1, 0, 0, 0) from rfl) (List.Mem.tail _ (List.Mem.head _)) ?_
  refine z_load X (x := i) (show cdA 350 775 = some (.iload 4, 2, 0, 0, 0) from rfl) (List.Mem.tail _ (List.Mem.tail _ (List.Mem.tail _ (List.Mem.tail _ (List.Mem.tail _ (List.Mem.head _)))))) ?_
  refine z_const X (show cdA 350 777 = some (.iconst 2, 1, 0, 0, 0) from rfl) ?_
  refine z_add X (show cdA 350 778 = some (.iadd, 1, 0, 0, 0) from rfl) ?_
  refine z_sld X S hL (show cdA 350 779 = some (.iaload, 1, 0, 0, 0) from rfl) (show 0 ≤ (i + 2) ∧ (i + 2) < (L : Int) by omega) ?_
  have sr10 : rng (sc xs (i + 2)) := sc_rng
  refine z_callV X 179 (rm := rmN 238) (As := [.int (Int32.ofInt (sc xs (i + 1))), .int (Int32.ofInt (sc xs (i + 2)))]) (st := []) (show cdA 350 780 = some (.invokevirtual 185, 3, 238, 0, 0) from rfl) rfl (by decide) rfl (by rw [E.1, E.2.1, E.2.2.1]; exact k_peak G Is7 JRLx_s7 (by first | exact ⟨sr9.1, sr9.2⟩ | omega) (by first | exact ⟨sr10.1, sr10.2⟩ | omega)) ⟨by rw [E.2.2.2]; exact (show 39 + 1 ≤ 2048 by omega), by rw [E.2.2.2]; exact (show 8 + (5 + 11) + 1622 ≤ 84000 by omega), by rw [E.2.2.2]; exact (show (ce + 2) + 0 ≤ 601024 by omega), by rw [E.2.2.2]; exact (show (sl + 12) + 0 ≤ 7293034 by omega)⟩ (Nat.le_of_ble_eq_true rfl) (fun vv s11 hq => ?_) (fun ee s11 hq => ?_)
  rotate_left
  · obtain ⟨Is11, Fs11, JRLx_s11, e12, hv, hrs11, hps11⟩ := hq; cases hv
  obtain ⟨Is11, Fs11, JRLx_s11, e12, hv, hrs11, hps11⟩ := hq
  cases hv
  have Gs11 := fm_ts Gs7 Fs11 (by decide) (by decide)
  have JRLx_s11 : RLx s11 := RLx_fm Fs11 (by decide) JRLx_s7
  have ws11_70 : iI s11 70 = iI s7 70 := fm_i Fs11 (by decide)
  have ws11_107 : iI s11 107 = iI s7 107 := fm_i Fs11 (by decide)
  have ws11_12 : iI s11 12 = iI s7 12 := fm_i Fs11 (by decide)
  have ws11_89 : iI s11 89 = iI s7 89 := fm_i Fs11 (by decide)
  have wos11 : iO s11 = iO s7 := fm_o Fs11 (by decide)
  show WS k 783 [(5, .int (Int32.ofInt e8)), (0, .ref q1), (1, .ref (A 0)), (2, .ref (A 179)), (3, .ref (A 517)), (4, .int (Int32.ofInt i))] [.int (Int32.ofInt e12)] (Wd A dT s11) (ce + 2) (sl + 12)
  refine z_store X (lv' := [(6, .int (Int32.ofInt e12)), (5, .int (Int32.ofInt e8)), (0, .ref q1), (1, .ref (A 0)), (2, .ref (A 179)), (3, .ref (A 517)), (4, .int (Int32.ofInt i))]) (show cdA 350 783 = some (.istore 6, 2, 0, 0, 0) from rfl) (by decide) (fun _ h => h) ?_
  refine z_goto X (t := 1894) (show cdA 350 785 = some (.goto 1109, 3, 0, 0, 0) from rfl) (by decide) ?_
  refine w_widen (ce' := ce + 29) (sl' := sl + 222) (by omega) (by omega) ?_
  exact WS_lv (lv := [(0, .ref q1), (1, .ref (A 0)), (2, .ref (A 179)), (3, .ref (A 517)), (4, .int (Int32.ofInt i))]) (List.forall_mem_cons.mpr ⟨(List.Mem.tail _ (List.Mem.tail _ (List.Mem.head _))), (List.forall_mem_cons.mpr ⟨(List.Mem.tail _ (List.Mem.tail _ (List.Mem.tail _ (List.Mem.head _)))), (List.forall_mem_cons.mpr ⟨(List.Mem.tail _ (List.Mem.tail _ (List.Mem.tail _ (List.Mem.tail _ (List.Mem.head _))))), (List.forall_mem_cons.mpr ⟨(List.Mem.tail _ (List.Mem.tail _ (List.Mem.tail _ (List.Mem.tail _ (List.Mem.tail _ (List.Mem.head _)))))), (List.forall_mem_cons.mpr ⟨(List.Mem.tail _ (List.Mem.tail _ (List.Mem.tail _ (List.Mem.tail _ (List.Mem.tail _ (List.Mem.tail _ (List.Mem.head _))))))), (fun q h => absurd h List.not_mem_nil)⟩)⟩)⟩)⟩)⟩) (hk A _ Is11 JRLx_s11 (by omega) (by omega) (by omega))
theorem lc_13 (G : GX l s0 D tys a0 dT) (GR : RS0 s0) (SF : SF0 s0) (GT : TXs0 s0) {k : kx_T} (X : AX k 350 dT) (E : kL k = l ∧ kS0 k = s0 ∧ kD k = D ∧ kR k = room_1) {q1 L : Nat} {xs : Nat → Int32} (S : SX k q1 L xs) (hL : L ≤ 3072) (I : Bd s) (jR : RLx s) (p1 : iI s 89 = 1) (p2 : iI s 12 ≤ 8) (p3 : iI s 70 = iI s 107) {i : Int} (hi : 0 ≤ i ∧ i + 6 ≤ (L : Int)) {ce sl : Nat} (hce : ce + 29 ≤ 601024) (hsl : sl + 222 ≤ 7293034) (hk : ∀ (A : Nat → Nat) (t : PS), Bd t → RLx t → iI t 89 = 1 → iI t 12 ≤ 8 → iI t 70 = iI t 107 → WS k 1894 [(0, .ref q1), (1, .ref (A 0)), (2, .ref (A 179)), (3, .ref (A 517)), (4, .int (Int32.ofInt i))] [] (Wd A dT t) (ce + 29) (sl + 222)) : WS k 788 [(0, .ref q1), (1, .ref (A 0)), (2, .ref (A 179)), (3, .ref (A 517)), (4, .int (Int32.ofInt i))] [] (Wd A dT s) ce sl := by
  have F : Fm [73] [1460, 231, 232, 230] s s := fm_rf _ _ s
  have b1 : (0 : Int) ≤ iI s 70 ∧ iI s 70 ≤ 40 := I.1 70
  have b2 : (0 : Int) ≤ iI s 107 ∧ iI s 107 ≤ 40 := I.1 107
  have b3 : (0 : Int) ≤ iI s 12 ∧ iI s 12 ≤ 9 := I.1 12
  have b4 : (1 : Int) ≤ iI s 89 ∧ iI s 89 ≤ 8 := I.1 89
  refine z_aload_n X (x := A 0) (show cdA 350 788 = some (.aload_n 1, 1, 0, 0, 0) from rfl) (List.Mem.tail _ (List.Mem.head _)) ?_
  refine z_aload_n X (x := q1) (show cdA 350 789 = some (.aload_n 0, 1, 0, 0, 0) from rfl) (List.Mem.head _) ?_
  refine z_load X (x := i) (show cdA 350 790 = some (.iload 4, 2, 0, 0, 0) from rfl) (List.Mem.tail _ (List.Mem.tail _ (List.Mem.tail _ (List.Mem.tail _ (List.Mem.head _))))) ?_
  refine z_const X (show cdA 350 792 = some (.iconst 1, 1, 0, 0, 0) from rfl) ?_
  refine z_add X (show cdA 350 793 = some (.iadd, 1, 0, 0, 0) from rfl) ?_
  refine z_sld X S hL (show cdA 350 794 = some (.iaload, 1, 0, 0, 0) from rfl) (show 0 ≤ (i + 1) ∧ (i + 1) < (L : Int) by omega) ?_
  have sr5 : rng (sc xs (i + 1)) := sc_rng
  refine z_aload_n X (x := A 517) (show cdA 350 795 = some (.aload_n 3, 1, 0, 0, 0) from rfl) (List.Mem.tail _ (List.Mem.tail _ (List.Mem.tail _ (List.Mem.head _)))) ?_
  refine z_callL X (rm := rmN 325) (As := [.ref (A 0), .int (Int32.ofInt (sc xs (i + 1))), .ref (A 517)]) (st := []) (show cdA 350 796 = some (.invokestatic 186, 3, 325, 6, 0) from rfl) (by decide) rfl (by rw [E.1, E.2.1, E.2.2.1]; exact lw_whole G I (by omega)) ⟨by rw [E.2.2.2]; exact (show 10 + 1 ≤ 2048 by omega), by rw [E.2.2.2]; exact (show 8 + (4 + 11) + 203 ≤ 84000 by omega), by rw [E.2.2.2]; exact (show ce + 1 ≤ 601024 by omega), by rw [E.2.2.2]; exact (show sl + 6 ≤ 7293034 by omega)⟩ (Nat.le_of_ble_eq_true rfl) (fun vv A s6 hA2 hq => ?_) (fun ee A s6 hA2 hq => ?_)
  rotate_left
  · obtain ⟨Is6, Fs6, e7, hv, hrs6, hps6⟩ := hq; cases hv
  obtain ⟨Is6, Fs6, e7, hv, hrs6, hps6⟩ := hq
  cases hv
  rw [← hA2 0 (by decide)]
  rw [← hA2 179 (by decide)]
  rw [← hA2 517 (by decide)]
  have Gs6 := fm_ts F Fs6 (by decide) (by decide)
  have JRLx_s6 : RLx s6 := RLx_fm Fs6 (by decide) jR
  have ws6_70 : iI s6 70 = iI s 70 := fm_i Fs6 (by decide)
  have ws6_107 : iI s6 107 = iI s 107 := fm_i Fs6 (by decide)
  have ws6_12 : iI s6 12 = iI s 12 := fm_i Fs6 (by decide)
  have ws6_89 : iI s6 89 = iI s 89 := fm_i Fs6 (by decide)
  show WS k 799 [(0, .ref q1), (1, .ref (A 0)), (2, .ref (A 179)), (3, .ref (A 517)), (4, .int (Int32.ofInt i))] [.int (Int32.ofInt e7)] (Wd A dT s6) (ce + 1) (sl + 6)
  refine z_store X (lv' := [(5, .int (Int32.ofInt e7)), (0, .ref q1), (1, .ref (A 0)), (2, .ref (A 179)), (3, .ref (A 517)), (4, .int (Int32.ofInt i))]) (show cdA 350 799 = some (.istore 5, 2, 0, 0, 0) from rfl) (by decide) (fun _ h => h) ?_
  refine z_aload_n X (x := A 179) (show cdA 350 801 = some (.aload_n 2, 1, 0, 0, 0) from rfl) (List.Mem.tail _ (List.Mem.tail _ (List.Mem.tail _ (List.Mem.head _)))) ?_
  refine z_aload_n X (x := q1) (show cdA 350 802 = some (.aload_n 0, 1, 0, 0, 0) from rfl) (List.Mem.tail _ (List.Mem.head _)) ?_
  refine z_load X (x := i) (show cdA 350 803 = some (.iload 4, 2, 0, 0, 0) from rfl) (List.Mem.tail _ (List.Mem.tail _ (List.Mem.tail _ (List.Mem.tail _ (List.Mem.tail _ (List.Mem.head _)))))) ?_
  refine z_const X (show cdA 350 805 = some (.iconst 1, 1, 0, 0, 0) from rfl) ?_
  refine z_add X (show cdA 350 806 = some (.iadd, 1, 0, 0, 0) from rfl) ?_
  refine z_sld X S hL (show cdA 350 807 = some (.iaload, 1, 0, 0, 0) from rfl) (show 0 ≤ (i + 1) ∧ (i + 1) < (L : Int) by omega) ?_
  have sr8 : rng (sc xs (i + 1)) := sc_rng
  refine z_callV X 179 (rm := rmN 241) (As := [.int (Int32.ofInt (sc xs (i + 1)))]) (st := []) (show cdA 350 808 = some (.invokevirtual 188, 3, 241, 0, 0) from rfl) rfl (by decide) rfl (by rw [E.1, E.2.1, E.2.2.1]; exact k_whole G Is6 (by first | exact ⟨sr8.1, sr8.2⟩ | omega)) ⟨by rw [E.2.2.2]; exact (show 9 + 1 ≤ 2048 by omega), by rw [E.2.2.2]; exact (show 8 + (2 + 11) + 171 ≤ 84000 by omega), by rw [E.2.2.2]; exact (show (ce + 1) + 0 ≤ 601024 by omega), by rw [E.2.2.2]; exact (show (sl + 6) + 0 ≤ 7293034 by omega)⟩ (Nat.le_of_ble_eq_true rfl) (fun vv s9 hq => ?_) (fun ee s9 hq => ?_)
  rotate_left
  · obtain ⟨Is9, Fs9, e10, hv, hrs9, hps9⟩ := hq; cases hv
  obtain ⟨Is9, Fs9, e10, hv, hrs9, hps9⟩ := hq
  cases hv
  have Gs9 := fm_ts Gs6 Fs9 (by decide) (by decide)
  have JRLx_s9 : RLx s9 := RLx_fm Fs9 (by decide) JRLx_s6
  have ws9_70 : iI s9 70 = iI s6 70 := fm_i Fs9 (by decide)
  have ws9_107 : iI s9 107 = iI s6 107 := fm_i Fs9 (by decide)
  have ws9_12 : iI s9 12 = iI s6 12 := fm_i Fs9 (by decide)
  have ws9_89 : iI s9 89 = iI s6 89 := fm_i Fs9 (by decide)
  have wos9 : iO s9 = iO s6 := fm_o Fs9 (by decide)
  show WS k 811 [(5, .int (Int32.ofInt e7)), (0, .ref q1), (1, .ref (A 0)), (2, .ref (A 179)), (3, .ref (A 517)), (4, .int (Int32.ofInt i))] [.int (Int32.ofInt e10)] (Wd A dT s9) (ce + 1) (sl + 6)
  refine z_store X (lv' := [(6, .int (Int32.ofInt e10)), (5, .int (Int32.ofInt e7)), (0, .ref q1), (1, .ref (A 0)), (2, .ref (A 179)), (3, .ref (A 517)), (4, .int (Int32.ofInt i))]) (show cdA 350 811 = some (.istore 6, 2, 0, 0, 0) from rfl) (by decide) (fun _ h => h) ?_
  refine z_goto X (t := 1894) (show cdA 350 813 = some (.goto 1081, 3, 0, 0, 0) from rfl) (by decide) ?_
  refine w_widen (ce' := ce + 29) (sl' := sl + 222) (by omega) (by omega) ?_
  exact WS_lv (lv := [(0, .ref q1), (1, .ref (A 0)), (2, .ref (A 179)), (3, .ref (A 517)), (4, .int (Int32.ofInt i))]) (List.forall_mem_cons.mpr ⟨(List.Mem.tail _ (List.Mem.tail _ (List.Mem.head _))), (List.forall_mem_cons.mpr ⟨(List.Mem.tail _ (List.Mem.tail _ (List.Mem.tail _ (List.Mem.head _)))), (List.forall_mem_cons.mpr ⟨(List.Mem.tail _ (List.Mem.tail _ (List.Mem.tail _ (List.Mem.tail _ (List.Mem.head _))))), (List.forall_mem_cons.mpr ⟨(List.Mem.tail _ (List.Mem.tail _ (List.Mem.tail _ (List.Mem.tail _ (List.Mem.tail _ (List.Mem.head _)))))), (List.forall_mem_cons.mpr ⟨(List.Mem.tail _ (List.Mem.tail _ (List.Mem.tail _ (List.Mem.tail _ (List.Mem.tail _ (List.Mem.tail _ (List.Mem.head _))))))), (fun q h => absurd h List.not_mem_nil)⟩)⟩)⟩)⟩)⟩) (hk A _ Is9 JRLx_s9 (by omega) (by omega) (by omega))
theorem lc_14 (G : GX l s0 D tys a0 dT) (GR : RS0 s0) (SF : SF0 s0) (GT : TXs0 s0) {k : kx_T} (X : AX k 350 dT) (E : kL k = l ∧ kS0 k = s0 ∧ kD k = D ∧ kR k = room_1) {q1 L : Nat} {xs : Nat → Int32} (S : SX k q1 L xs) (hL : L ≤ 3072) (I : Bd s) (jR : RLx s) (p1 : iI s 89 = 1) (p2 : iI s 12 ≤ 8) (p3 : iI s 70 = iI s 107) {i : Int} (hi : 0 ≤ i ∧ i + 6 ≤ (L : Int)) {ce sl : Nat} (hce : ce + 29 ≤ 601024) (hsl : sl + 222 ≤ 7293034) (hk : ∀ (A : Nat → Nat) (t : PS), Bd t → RLx t → iI t 89 = 1 → iI t 12 ≤ 8 → iI t 70 = iI t 107 → WS k 1894 [(0, .ref q1), (1, .ref (A 0)), (2, .ref (A 179)), (3, .ref (A 517)), (4, .int (Int32.ofInt i))] [] (Wd A dT t) (ce + 29) (sl + 222)) : WS k 816 [(0, .ref q1), (1, .ref (A 0)), (2, .ref (A 179)), (3, .ref (A 517)), (4, .int (Int32.ofInt i))] [] (Wd A dT s) ce sl := by
  have F : Fm [73] [1460, 231, 232, 230] s s := fm_rf _ _ s
  have b1 : (0 : Int) ≤ iI s 70 ∧ iI s 70 ≤ 40 := I.1 70
  have b2 : (0 : Int) ≤ iI s 107 ∧ iI s 107 ≤ 40 := I.1 107
  have b3 : (0 : Int) ≤ iI s 12 ∧ iI s 12 ≤ 9 := I.1 12
  have b4 : (1 : Int) ≤ iI s 89 ∧ iI s 89 ≤ 8 := I.1 89
  refine z_aload_n X (x := A 0) (show cdA 350 816 = some (.aload_n 1, 1, 0, 0, 0) from rfl) (List.Mem.tail _ (List.Mem.head _)) ?_
  refine z_aload_n X (x := q1) (show cdA 350 817 = some (.aload_n 0, 1, 0, 0, 0) from rfl) (List.Mem.head _) ?_
  refine z_load X (x := i) (show cdA 350 818 = some (.iload 4, 2, 0, 0, 0) from rfl) (List.Mem.tail _ (List.Mem.tail _ (List.Mem.tail _ (List.Mem.tail _ (List.Mem.head _))))) ?_
  refine z_const X (show cdA 350 820 = some (.iconst 1, 1, 0, 0, 0) from rfl) ?_
  refine z_add X (show cdA 350 821 = some (.iadd, 1, 0, 0, 0) from rfl) ?_
  refine z_sld X S hL (show cdA 350 822 = some (.iaload, 1, 0, 0, 0) from rfl) (show 0 ≤ (i + 1) ∧ (i + 1) < (L : Int) by omega) ?_
  have sr5 : rng (sc xs (i + 1)) := sc_rng
  refine z_aload_n X (x := q1) (show cdA 350 823 = some (.aload_n 0, 1, 0, 0, 0) from rfl) (List.Mem.head _) ?_
  refine z_load X (x := i) (show cdA 350 824 = some (.iload 4, 2, 0, 0, 0) from rfl) (List.Mem.tail _ (List.Mem.tail _ (List.Mem.tail _ (List.Mem.tail _ (List.Mem.head _))))) ?_
  refine z_const X (show cdA 350 826 = some (.iconst 2, 1, 0, 0, 0) from rfl) ?_
  refine z_add X (show cdA 350 827 = some (.iadd, 1, 0, 0, 0) from rfl) ?_
  refine z_sld X S hL (show cdA 350 828 = some (.iaload, 1, 0, 0, 0) from rfl) (show 0 ≤ (i + 2) ∧ (i + 2) < (L : Int) by omega) ?_
  have sr6 : rng (sc xs (i + 2)) := sc_rng
  refine z_aload_n X (x := A 517) (show cdA 350 829 = some (.aload_n 3, 1, 0, 0, 0) from rfl) (List.Mem.tail _ (List.Mem.tail _ (List.Mem.tail _ (List.Mem.head _)))) ?_
  refine z_callL X (rm := rmN 326) (As := [.ref (A 0), .int (Int32.ofInt (sc xs (i + 1))), .int (Int32.ofInt (sc xs (i + 2))), .ref (A 517)]) (st := []) (show cdA 350 830 = some (.invokestatic 189, 3, 326, 6, 0) from rfl) (by decide) rfl (by rw [E.1, E.2.1, E.2.2.1]; exact lw_neck G I (by omega) (by omega)) ⟨by rw [E.2.2.2]; exact (show 11 + 1 ≤ 2048 by omega), by rw [E.2.2.2]; exact (show 8 + (5 + 11) + 235 ≤ 84000 by omega), by rw [E.2.2.2]; exact (show ce + 1 ≤ 601024 by omega), by rw [E.2.2.2]; exact (show sl + 6 ≤ 7293034 by omega)⟩ (Nat.le_of_ble_eq_true rfl) (fun vv A s7 hA2 hq => ?_) (fun ee A s7 hA2 hq => ?_)
  rotate_left
  · obtain ⟨Is7, Fs7, e8, hv, hrs7, hps7⟩ := hq; cases hv
  obtain ⟨Is7, Fs7, e8, hv, hrs7, hps7⟩ := hq
  cases hv
  rw [← hA2 0 (by decide)]
  rw [← hA2 179 (by decide)]
  rw [← hA2 517 (by decide)]
  have Gs7 := fm_ts F Fs7 (by decide) (by decide)
  have JRLx_s7 : RLx s7 := RLx_fm Fs7 (by decide) jR
  have ws7_70 : iI s7 70 = iI s 70 := fm_i Fs7 (by decide)
  have ws7_107 : iI s7 107 = iI s 107 := fm_i Fs7 (by decide)
  have ws7_12 : iI s7 12 = iI s 12 := fm_i Fs7 (by decide)
  have ws7_89 : iI s7 89 = iI s 89 := fm_i Fs7 (by decide)
  show WS k 833 [(0, .ref q1), (1, .ref (A 0)), (2, .ref (A 179)), (3, .ref (A 517)), (4, .int (Int32.ofInt i))] [.int (Int32.ofInt e8)] (Wd A dT s7) (ce + 1) (sl + 6)
  refine z_store X (lv' := [(5, .int (Int32.ofInt e8)), (0, .ref q1), (1, .ref (A 0)), (2, .ref (A 179)), (3, .ref (A 517)), (4, .int (Int32.ofInt i))]) (show cdA 350 833 = some (.istore 5, 2, 0, 0, 0) from rfl) (by decide) (fun _ h => h) ?_
  refine z_aload_n X (x := A 179) (show cdA 350 835 = some (.aload_n 2, 1, 0, 0, 0) from rfl) (List.Mem.tail _ (List.Mem.tail _ (List.Mem.tail _ (List.Mem.head _)))) ?_
  refine z_aload_n X (x := q1) (show cdA 350 836 = some (.aload_n 0, 1, 0, 0, 0) from rfl) (List.Mem.tail _ (List.Mem.head _)) ?_
  refine z_load X (x := i) (show cdA 350 837 = some (.iload 4, 2, 0, 0, 0) from rfl) (List.Mem.tail _ (List.Mem.tail _ (List.Mem.tail _ (List.Mem.tail _ (List.Mem.tail _ (List.Mem.head _)))))) ?_
  refine z_const X (show cdA 350 839 = some (.iconst 1, 1, 0, 0, 0) from rfl) ?_
  refine z_add X (show cdA 350 840 = some (.iadd, 1, 0, 0, 0) from rfl) ?_
  refine z_sld X S hL (show cdA 350 841 = some (.iaload, 1, 0, 0, 0) from rfl) (show 0 ≤ (i + 1) ∧ (i + 1) < (L : Int) by omega) ?_
  have sr9 : rng (sc xs (i + 1)) := sc_rng
  refine z_aload_n X (x := q1) (show cdA 350 842 = some (.aload_n 0, 1, 0, 0, 0) from rfl) (List.Mem.tail _ (List.Mem.head _)) ?_
  refine z_load X (x := i) (show cdA 350 843 = some (.iload 4, 2, 0, 0, 0) from rfl) (List.Mem.tail _ (List.Mem.tail _ (List.Mem.tail _ (List.Mem.tail _ (List.Mem.tail _ (List.Mem.head _)))))) ?_
  refine z_const X (show cdA 350 845 = some (.iconst 2, 1, 0, 0, 0) from rfl) ?_
  refine z_add X (show cdA 350 846 = some (.iadd, 1, 0, 0, 0) from rfl) ?_
  refine z_sld X S hL (show cdA 350 847 = some (.iaload, 1, 0, 0, 0) from rfl) (show 0 ≤ (i + 2) ∧ (i + 2) < (L : Int) by omega) ?_
  have sr10 : rng (sc xs (i + 2)) := sc_rng
  refine z_callV X 179 (rm := rmN 242) (As := [.int (Int32.ofInt (sc xs (i + 1))), .int (Int32.ofInt (sc xs (i + 2)))]) (st := []) (show cdA 350 848 = some (.invokevirtual 191, 3, 242, 0, 0) from rfl) rfl (by decide) rfl (by rw [E.1, E.2.1, E.2.2.1]; exact k_neck G Is7 (by first | exact ⟨sr9.1, sr9.2⟩ | omega) (by first | exact ⟨sr10.1, sr10.2⟩ | omega)) ⟨by rw [E.2.2.2]; exact (show 9 + 1 ≤ 2048 by omega), by rw [E.2.2.2]; exact (show 8 + (6 + 11) + 171 ≤ 84000 by omega), by rw [E.2.2.2]; exact (show (ce + 1) + 0 ≤ 601024 by omega), by rw [E.2.2.2]; exact (show (sl + 6) + 0 ≤ 7293034 by omega)⟩ (Nat.le_of_ble_eq_true rfl) (fun vv s11 hq => ?_) (fun ee s11 hq => ?_)
  rotate_left
  · obtain ⟨Is11, Fs11, e12, hv, hrs11, hps11⟩ := hq; cases hv
  obtain ⟨Is11, Fs11, e12, hv, hrs11, hps11⟩ := hq
  cases hv
  have Gs11 := fm_ts Gs7 Fs11 (by decide) (by decide)
  have JRLx_s11 : RLx s11 := RLx_fm Fs11 (by decide) JRLx_s7
  have ws11_70 : iI s11 70 = iI s7 70 := fm_i Fs11 (by decide)
  have ws11_107 : iI s11 107 = iI s7 107 := fm_i Fs11 (by decide)
  have ws11_12 : iI s11 12 = iI s7 12 := fm_i Fs11 (by decide)
  have ws11_89 : iI s11 89 = iI s7 89 := fm_i Fs11 (by decide)
  have wos11 : iO s11 = iO s7 := fm_o Fs11 (by decide)
  show WS k 851 [(5, .int (Int32.ofInt e8)), (0, .ref q1), (1, .ref (A 0)), (2, .ref (A 179)), (3, .ref (A 517)), (4, .int (Int32.ofInt i))] [.int (Int32.ofInt e12)] (Wd A dT s11) (ce + 1) (sl + 6)
  refine z_store X (lv' := [(6, .int (Int32.ofInt e12)), (5, .int (Int32.ofInt e8)), (0, .ref q1), (1, .ref (A 0)), (2, .ref (A 179)), (3, .ref (A 517)), (4, .int (Int32.ofInt i))]) (show cdA 350 851 = some (.istore 6, 2, 0, 0, 0) from rfl) (by decide) (fun _ h => h) ?_
  refine z_goto X (t := 1894) (show cdA 350 853 = some (.goto 1041, 3, 0, 0, 0) from rfl) (by decide) ?_
  refine w_widen (ce' := ce + 29) (sl' := sl + 222) (by omega) (by omega) ?_
  exact WS_lv (lv := [(0, .ref q1), (1, .ref (A 0)), (2, .ref (A 179)), (3, .ref (A 517)), (4, .int (Int32.ofInt i))]) (List.forall_mem_cons.mpr ⟨(List.Mem.tail _ (List.Mem.tail _ (List.Mem.head _))), (List.forall_mem_cons.mpr ⟨(List.Mem.tail _ (List.Mem.tail _ (List.Mem.tail _ (List.Mem.head _)))), (List.forall_mem_cons.mpr ⟨(List.Mem.tail _ (List.Mem.tail _ (List.Mem.tail _ (List.Mem.tail _ (List.Mem.head _))))), (List.forall_mem_cons.mpr ⟨(List.Mem.tail _ (List.Mem.tail _ (List.Mem.tail _ (List.Mem.tail _ (List.Mem.tail _ (List.Mem.head _)))))), (List.forall_mem_cons.mpr ⟨(List.Mem.tail _ (List.Mem.tail _ (List.Mem.tail _ (List.Mem.tail _ (List.Mem.tail _ (List.Mem.tail _ (List.Mem.head _))))))), (fun q h => absurd h List.not_mem_nil)⟩)⟩)⟩)⟩)⟩) (hk A _ Is11 JRLx_s11 (by omega) (by omega) (by omega))
theorem lc_15 (G : GX l s0 D tys a0 dT) (GR : RS0 s0) (SF : SF0 s0) (GT : TXs0 s0) {k : kx_T} (X : AX k 350 dT) (E : kL k = l ∧ kS0 k = s0 ∧ kD k = D ∧ kR k = room_1) {q1 L : Nat} {xs : Nat → Int32} (S : SX k q1 L xs) (hL : L ≤ 3072) (I : Bd s) (jR : RLx s) (p1 : iI s 89 = 1) (p2 : iI s 12 ≤ 8) (p3 : iI s 70 = iI s 107) {i : Int} (hi : 0 ≤ i ∧ i + 6 ≤ (L : Int)) {ce sl : Nat} (hce : ce + 29 ≤ 601024) (hsl : sl + 222 ≤ 7293034) (hk : ∀ (A : Nat → Nat) (t : PS), Bd t → RLx t → iI t 89 = 1 → iI t 12 ≤ 8 → iI t 70 = iI t 107 → WS k 1894 [(0, .ref q1), (1, .ref (A 0)), (2, .ref (A 179)), (3, .ref (A 517)), (4, .int (Int32.ofInt i))] [] (Wd A dT t) (ce + 29) (sl + 222)) : WS k 856 [(0, .ref q1), (1, .ref (A 0)), (2, .ref (A 179)), (3, .ref (A 517)), (4, .int (Int32.ofInt i))] [] (Wd A dT s) ce sl := by
  have F : Fm [73] [1460] s s := fm_rf _ _ s
  have b1 : (0 : Int) ≤ iI s 70 ∧ iI s 70 ≤ 40 := I.1 70
  have b2 : (0 : Int) ≤ iI s 107 ∧ iI s 107 ≤ 40 := I.1 107
  have b3 : (0 : Int) ≤ iI s 12 ∧ iI s 12 ≤ 9 := I.1 12
  have b4 : (1 : Int) ≤ iI s 89 ∧ iI s 89 ≤ 8 := I.1 89
  refine z_aload_n X (x := A 0) (show cdA 350 856 = some (.aload_n 1, 1, 0, 0, 0) from rfl) (List.Mem.tail _ (List.Mem.head _)) ?_
  refine z_aload_n X (x := q1) (show cdA 350 857 = some (.aload_n 0, 1, 0, 0, 0) from rfl) (List.Mem.head _) ?_
  refine z_load X (x := i) (show cdA 350 858 = some (.iload 4, 2, 0, 0, 0) from rfl) (List.Mem.tail _ (List.Mem.tail _ (List.Mem.tail _ (List.Mem.tail _ (List.Mem.head _))))) ?_
  refine z_const X (show cdA 350 860 = some (.iconst 1, 1, 0, 0, 0) from rfl) ?_
  refine z_add X (show cdA 350 861 = some (.iadd, 1, 0, 0, 0) from rfl) ?_
  refine z_sld X S hL (show cdA 350 862 = some (.iaload, 1, 0, 0, 0) from rfl) (show 0 ≤ (i + 1) ∧ (i + 1) < (L : Int) by omega) ?_
  have sr5 : rng (sc xs (i + 1)) := sc_rng
  refine z_aload_n X (x := A 517) (show cdA 350 863 = some (.aload_n 3, 1, 0, 0, 0) from rfl) (List.Mem.tail _ (List.Mem.tail _ (List.Mem.tail _ (List.Mem.head _)))) ?_
  refine z_callL X (rm := rmN 327) (As := [.ref (A 0), .int (Int32.ofInt (sc xs (i + 1))), .ref (A 517)]) (st := []) (show cdA 350 864 = some (.invokestatic 192, 3, 327, 6, 0) from rfl) (by decide) rfl (by rw [E.1, E.2.1, E.2.2.1]; exact lw_shorts G I (by omega)) ⟨by rw [E.2.2.2]; exact (show 10 + 1 ≤ 2048 by omega), by rw [E.2.2.2]; exact (show 8 + (4 + 11) + 198 ≤ 84000 by omega), by rw [E.2.2.2]; exact (show ce + 1 ≤ 601024 by omega), by rw [E.2.2.2]; exact (show sl + 6 ≤ 7293034 by omega)⟩ (Nat.le_of_ble_eq_true rfl) (fun vv A s6 hA2 hq => ?_) (fun ee A s6 hA2 hq => ?_)
  rotate_left
  · obtain ⟨Is6, Fs6, e7, hv, hrs6, hps6⟩ := hq; cases hv
  obtain ⟨Is6, Fs6, e7, hv, hrs6, hps6⟩ := hq
  cases hv
  rw [← hA2 0 (by decide)]
  rw [← hA2 179 (by decide)]
  rw [← hA2 517 (by decide)]
  have Gs6 := fm_ts F Fs6 (by decide) (by decide)
  have JRLx_s6 : RLx s6 := RLx_fm Fs6 (by decide) jR
  have ws6_70 : iI s6 70 = iI s 70 := fm_i Fs6 (by decide)
  have ws6_107 : iI s6 107 = iI s 107 := fm_i Fs6 (by decide)
  have ws6_12 : iI s6 12 = iI s 12 := fm_i Fs6 (by decide)
  have ws6_89 : iI s6 89 = iI s 89 := fm_i Fs6 (by decide)
  show WS k 867 [(0, .ref q1), (1, .ref (A 0)), (2, .ref (A 179)), (3, .ref (A 517)), (4, .int (Int32.ofInt i))] [.int (Int32.ofInt e7)] (Wd A dT s6) (ce + 1) (sl + 6)
  refine z_store X (lv' := [(5, .int (Int32.ofInt e7)), (0, .ref q1), (1, .ref (A 0)), (2, .ref (A 179)), (3, .ref (A 517)), (4, .int (Int32.ofInt i))]) (show cdA 350 867 = some (.istore 5, 2, 0, 0, 0) from rfl) (by decide) (fun _ h => h) ?_
  refine z_aload_n X (x := A 179) (show cdA 350 869 = some (.aload_n 2, 1, 0, 0, 0) from rfl) (List.Mem.tail _ (List.Mem.tail _ (List.Mem.tail _ (List.Mem.head _)))) ?_
  refine z_aload_n X (x := q1) (show cdA 350 870 = some (.aload_n 0, 1, 0, 0, 0) from rfl) (List.Mem.tail _ (List.Mem.head _)) ?_
  refine z_load X (x := i) (show cdA 350 871 = some (.iload 4, 2, 0, 0, 0) from rfl) (List.Mem.tail _ (List.Mem.tail _ (List.Mem.tail _ (List.Mem.tail _ (List.Mem.tail _ (List.Mem.head _)))))) ?_
  refine z_const X (show cdA 350 873 = some (.iconst 1, 1, 0, 0, 0) from rfl) ?_
  refine z_add X (show cdA 350 874 = some (.iadd, 1, 0, 0, 0) from rfl) ?_
  refine z_sld X S hL (show cdA 350 875 = some (.iaload, 1, 0, 0, 0) from rfl) (show 0 ≤ (i + 1) ∧ (i + 1) < (L : Int) by omega) ?_
  have sr8 : rng (sc xs (i + 1)) := sc_rng
  refine z_callV X 179 (rm := rmN 243) (As := [.int (Int32.ofInt (sc xs (i + 1)))]) (st := []) (show cdA 350 876 = some (.invokevirtual 194, 3, 243, 0, 0) from rfl) rfl (by decide) rfl (by rw [E.1, E.2.1, E.2.2.1]; exact k_shorts G Is6 (by first | exact ⟨sr8.1, sr8.2⟩ | omega)) ⟨by rw [E.2.2.2]; exact (show 7 + 1 ≤ 2048 by omega), by rw [E.2.2.2]; exact (show 8 + (7 + 11) + 122 ≤ 84000 by omega), by rw [E.2.2.2]; exact (show (ce + 1) + 0 ≤ 601024 by omega), by rw [E.2.2.2]; exact (show (sl + 6) + 0 ≤ 7293034 by omega)⟩ (Nat.le_of_ble_eq_true rfl) (fun vv s9 hq => ?_) (fun ee s9 hq => ?_)
  rotate_left
  · obtain ⟨Is9, Fs9, e10, hv, hrs9, hps9⟩ := hq; cases hv
  obtain ⟨Is9, Fs9, e10, hv, hrs9, hps9⟩ := hq
  cases hv
  have Gs9 := fm_ts Gs6 Fs9 (by decide) (by decide)
  have JRLx_s9 : RLx s9 := RLx_fm Fs9 (by decide) JRLx_s6
  have ws9_70 : iI s9 70 = iI s6 70 := fm_i Fs9 (by decide)
  have ws9_107 : iI s9 107 = iI s6 107 := fm_i Fs9 (by decide)
  have ws9_12 : iI s9 12 = iI s6 12 := fm_i Fs9 (by decide)
  have ws9_89 : iI s9 89 = iI s6 89 := fm_i Fs9 (by decide)
  have wos9 : iO s9 = iO s6 := fm_o Fs9 (by decide)
  show WS k 879 [(5, .int (Int32.ofInt e7)), (0, .ref q1), (1, .ref (A 0)), (2, .ref (A 179)), (3, .ref (A 517)), (4, .int (Int32.ofInt i))] [.int (Int32.ofInt e10)] (Wd A dT s9) (ce + 1) (sl + 6)
  refine z_store X (lv' := [(6, .int (Int32.ofInt e10)), (5, .int (Int32.ofInt e7)), (0, .ref q1), (1, .ref (A 0)), (2, .ref (A 179)), (3, .ref (A 517)), (4, .int (Int32.ofInt i))]) (show cdA 350 879 = some (.istore 6, 2, 0, 0, 0) from rfl) (by decide) (fun _ h => h) ?_
  refine z_goto X (t := 1894) (show cdA 350 881 = some (.goto 1013, 3, 0, 0, 0) from rfl) (by decide) ?_
  refine w_widen (ce' := ce + 29) (sl' := sl + 222) (by omega) (by omega) ?_
  exact WS_lv (lv := [(0, .ref q1), (1, .ref (A 0)), (2, .ref (A 179)), (3, .ref (A 517)), (4, .int (Int32.ofInt i))]) (List.forall_mem_cons.mpr ⟨(List.Mem.tail _ (List.Mem.tail _ (List.Mem.head _))), (List.forall_mem_cons.mpr ⟨(List.Mem.tail _ (List.Mem.tail _ (List.Mem.tail _ (List.Mem.head _)))), (List.forall_mem_cons.mpr ⟨(List.Mem.tail _ (List.Mem.tail _ (List.Mem.tail _ (List.Mem.tail _ (List.Mem.head _))))), (List.forall_mem_cons.mpr ⟨(List.Mem.tail _ (List.Mem.tail _ (List.Mem.tail _ (List.Mem.tail _ (List.Mem.tail _ (List.Mem.head _)))))), (List.forall_mem_cons.mpr ⟨(List.Mem.tail _ (List.Mem.tail _ (List.Mem.tail _ (List.Mem.tail _ (List.Mem.tail _ (List.Mem.tail _ (List.Mem.head _))))))), (fun q h => absurd h List.not_mem_nil)⟩)⟩)⟩)⟩)⟩) (hk A _ Is9 JRLx_s9 (by omega) (by omega) (by omega))
theorem lc_16 (G : GX l s0 D tys a0 dT) (GR : RS0 s0) (SF : SF0 s0) (GT : TXs0 s0) {k : kx_T} (X : AX k 350 dT) (E : kL k = l ∧ kS0 k = s0 ∧ kD k = D ∧ kR k = room_1) {q1 L : Nat} {xs : Nat → Int32} (S : SX k q1 L xs) (hL : L ≤ 3072) (I : Bd s) (jR : RLx s) (p1 : iI s 89 = 1) (p2 : iI s 12 ≤ 8) (p3 : iI s 70 = iI s 107) {i : Int} (hi : 0 ≤ i ∧ i + 6 ≤ (L : Int)) {ce sl : Nat} (hce : ce + 29 ≤ 601024) (hsl : sl + 222 ≤ 7293034) (hk : ∀ (A : Nat → Nat) (t : PS), Bd t → RLx t → iI t 89 = 1 → iI t 12 ≤ 8 → iI t 70 = iI t 107 → WS k 1894 [(0, .ref q1), (1, .ref (A 0)), (2, .ref (A 179)), (3, .ref (A 517)), (4, .int (Int32.ofInt i))] [] (Wd A dT t) (ce + 29) (sl + 222)) : WS k 884 [(0, .ref q1), (1, .ref (A 0)), (2, .ref (A 179)), (3, .ref (A 517)), (4, .int (Int32.ofInt i))] [] (Wd A dT s) ce sl := by
  have F : Fm [21, 73, 95] [1460] s s := fm_rf _ _ s
  have b1 : (0 : Int) ≤ iI s 70 ∧ iI s 70 ≤ 40 := I.1 70
  have b2 : (0 : Int) ≤ iI s 107 ∧ iI s 107 ≤ 40 := I.1 107
  have b3 : (0 : Int) ≤ iI s 12 ∧ iI s 12 ≤ 9 := I.1 12
  have b4 : (1 : Int) ≤ iI s 89 ∧ iI s 89 ≤ 8 := I.1 89
  refine z_aload_n X (x := A 0) (show cdA 350 884 = some (.aload_n 1, 1, 0, 0, 0) from rfl) (List.Mem.tail _ (List.Mem.head _)) ?_
  refine z_aload_n X (x := q1) (show cdA 350 885 = some (.aload_n 0, 1, 0, 0, 0) from rfl) (List.Mem.head _) ?_
  refine z_load X (x := i) (show cdA 350 886 = some (.iload 4, 2, 0, 0, 0) from rfl) (List.Mem.tail _ (List.Mem.tail _ (List.Mem.tail _ (List.Mem.tail _ (List.Mem.head _))))) ?_
  refine z_const X (show cdA 350 888 = some (.iconst 1, 1, 0, 0, 0) from rfl) ?_
  refine z_add X (show cdA 350 889 = some (.iadd, 1, 0, 0, 0) from rfl) ?_
  refine z_sld X S hL (show cdA 350 890 = some (.iaload, 1, 0, 0, 0) from rfl) (show 0 ≤ (i + 1) ∧ (i + 1) < (L : Int) by omega) ?_
  have sr5 : rng (sc xs (i + 1)) := sc_rng
  refine z_aload_n X (x := A 517) (show cdA 350 891 = some (.aload_n 3, 1, 0, 0, 0) from rfl) (List.Mem.tail _ (List.Mem.tail _ (List.Mem.tail _ (List.Mem.head _)))) ?_
  refine z_callL X (rm := rmN 328) (As := [.ref (A 0), .int (Int32.ofInt (sc xs (i + 1))), .ref (A 517)]) (st := []) (show cdA 350 892 = some (.invokestatic 195, 3, 328, 6, 0) from rfl) (by decide) rfl (by rw [E.1, E.2.1, E.2.2.1]; exact lw_length G I (by omega)) ⟨by rw [E.2.2.2]; exact (show 8 + 1 ≤ 2048 by omega), by rw [E.2.2.2]; exact (show 8 + (4 + 11) + 145 ≤ 84000 by omega), by rw [E.2.2.2]; exact (show ce + 1 ≤ 601024 by omega), by rw [E.2.2.2]; exact (show sl + 6 ≤ 7293034 by omega)⟩ (Nat.le_of_ble_eq_true rfl) (fun vv A s6 hA2 hq => ?_) (fun ee A s6 hA2 hq => ?_)
  rotate_left
  · obtain ⟨Is6, Fs6, e7, hv, hrs6, hps6⟩ := hq; cases hv
  obtain ⟨Is6, Fs6, e7, hv, hrs6, hps6⟩ := hq
  cases hv
  rw [← hA2 0 (by decide)]
  rw [← hA2 179 (by decide)]
  rw [← hA2 517 (by decide)]
  have Gs6 := fm_ts F Fs6 (by decide) (by decide)
  have JRLx_s6 : RLx s6 := RLx_fm Fs6 (by decide) jR
  have ws6_70 : iI s6 70 = iI s 70 := fm_i Fs6 (by decide)
  have ws6_107 : iI s6 107 = iI s 107 := fm_i Fs6 (by decide)
  have ws6_12 : iI s6 12 = iI s 12 := fm_i Fs6 (by decide)
  have ws6_89 : iI s6 89 = iI s 89 := fm_i Fs6 (by decide)
  show WS k 895 [(0, .ref q1), (1, .ref (A 0)), (2, .ref (A 179)), (3, .ref (A 517)), (4, .int (Int32.ofInt i))] [.int (Int32.ofInt e7)] (Wd A dT s6) (ce + 1) (sl + 6)
  refine z_store X (lv' := [(5, .int (Int32.ofInt e7)), (0, .ref q1), (1, .ref (A 0)), (2, .ref (A 179)), (3, .ref (A 517)), (4, .int (Int32.ofInt i))]) (show cdA 350 895 = some (.istore 5, 2, 0, 0, 0) from rfl) (by decide) (fun _ h => h) ?_
  refine z_aload_n X (x := A 179) (show cdA 350 897 = some (.aload_n 2, 1, 0, 0, 0) from rfl) (List.Mem.tail _ (List.Mem.tail _ (List.Mem.tail _ (List.Mem.head _)))) ?_
  refine z_aload_n X (x := q1) (show cdA 350 898 = some (.aload_n 0, 1, 0, 0, 0) from rfl) (List.Mem.tail _ (List.Mem.head _)) ?_
  refine z_load X (x := i) (show cdA 350 899 = some (.iload 4, 2, 0, 0, 0) from rfl) (List.Mem.tail _ (List.Mem.tail _ (List.Mem.tail _ (List.Mem.tail _ (List.Mem.tail _ (List.Mem.head _)))))) ?_
  refine z_const X (show cdA 350 901 = some (.iconst 1, 1, 0, 0, 0) from rfl) ?_
  refine z_add X (show cdA 350 902 = some (.iadd, 1, 0, 0, 0) from rfl) ?_
  refine z_sld X S hL (show cdA 350 903 = some (.iaload, 1, 0, 0, 0) from rfl) (show 0 ≤ (i + 1) ∧ (i + 1) < (L : Int) by omega) ?_
  have sr8 : rng (sc xs (i + 1)) := sc_rng
  refine z_callV X 179 (rm := rmN 244) (As := [.int (Int32.ofInt (sc xs (i + 1)))]) (st := []) (show cdA 350 904 = some (.invokevirtual 197, 3, 244, 0, 0) from rfl) rfl (by decide) rfl (by rw [E.1, E.2.1, E.2.2.1]; exact k_length G Is6 (by first | exact ⟨sr8.1, sr8.2⟩ | omega)) ⟨by rw [E.2.2.2]; exact (show 7 + 1 ≤ 2048 by omega), by rw [E.2.2.2]; exact (show 8 + (3 + 11) + 122 ≤ 84000 by omega), by rw [E.2.2.2]; exact (show (ce + 1) + 0 ≤ 601024 by omega), by rw [E.2.2.2]; exact (show (sl + 6) + 0 ≤ 7293034 by omega)⟩ (Nat.le_of_ble_eq_true rfl) (fun vv s9 hq => ?_) (fun ee s9 hq => ?_)
  rotate_left
  · obtain ⟨Is9, Fs9, e10, hv, hrs9, hps9⟩ := hq; cases hv
  obtain ⟨Is9, Fs9, e10, hv, hrs9, hps9⟩ := hq
  cases hv
  have Gs9 := fm_ts Gs6 Fs9 (by decide) (by decide)
  have JRLx_s9 : RLx s9 := RLx_fm Fs9 (by decide) JRLx_s6
  have ws9_70 : iI s9 70 = iI s6 70 := fm_i Fs9 (by decide)
  have ws9_107 : iI s9 107 = iI s6 107 := fm_i Fs9 (by decide)
  have ws9_12 : iI s9 12 = iI s6 12 := fm_i Fs9 (by decide)
  have ws9_89 : iI s9 89 = iI s6 89 := fm_i Fs9 (by decide)
  have wos9 : iO s9 = iO s6 := fm_o Fs9 (by decide)
  show WS k 907 [(5, .int (Int32.ofInt e7)), (0, .ref q1), (1, .ref (A 0)), (2, .ref (A 179)), (3, .ref (A 517)), (4, .int (Int32.ofInt i))] [.int (Int32.ofInt e10)] (Wd A dT s9) (ce + 1) (sl + 6)
  refine z_store X (lv' := [(6, .int (Int32.ofInt e10)), (5, .int (Int32.ofInt e7)), (0, .ref q1), (1, .ref (A 0)), (2, .ref (A 179)), (3, .ref (A 517)), (4, .int (Int32.ofInt i))]) (show cdA 350 907 = some (.istore 6, 2, 0, 0, 0) from rfl) (by decide) (fun _ h => h) ?_
  refine z_goto X (t := 1894) (show cdA 350 909 = some (.goto 985, 3, 0, 0, 0) from rfl) (by decide) ?_
  refine w_widen (ce' := ce + 29) (sl' := sl + 222) (by omega) (by omega) ?_
  exact WS_lv (lv := [(0, .ref q1), (1, .ref (A 0)), (2, .ref (A 179)), (3, .ref (A 517)), (4, .int (Int32.ofInt i))]) (List.forall_mem_cons.mpr ⟨(List.Mem.tail _ (List.Mem.tail _ (List.Mem.head _))), (List.forall_mem_cons.mpr ⟨(List.Mem.tail _ (List.Mem.tail _ (List.Mem.tail _ (List.Mem.head _)))), (List.forall_mem_cons.mpr ⟨(List.Mem.tail _ (List.Mem.tail _ (List.Mem.tail _ (List.Mem.tail _ (List.Mem.head _))))), (List.forall_mem_cons.mpr ⟨(List.Mem.tail _ (List.Mem.tail _ (List.Mem.tail _ (List.Mem.tail _ (List.Mem.tail _ (List.Mem.head _)))))), (List.forall_mem_cons.mpr ⟨(List.Mem.tail _ (List.Mem.tail _ (List.Mem.tail _ (List.Mem.tail _ (List.Mem.tail _ (List.Mem.tail _ (List.Mem.head _))))))), (fun q h => absurd h List.not_mem_nil)⟩)⟩)⟩)⟩)⟩) (hk A _ Is9 JRLx_s9 (by omega) (by omega) (by omega))
theorem lc_17 (G : GX l s0 D tys a0 dT) (GR : RS0 s0) (SF : SF0 s0) (GT : TXs0 s0) {k : kx_T} (X : AX k 350 dT) (E : kL k = l ∧ kS0 k = s0 ∧ kD k = D ∧ kR k = room_1) {q1 L : Nat} {xs : Nat → Int32} (S : SX k q1 L xs) (hL : L ≤ 3072) (I : Bd s) (jR : RLx s) (p1 : iI s 89 = 1) (p2 : iI s 12 ≤ 8) (p3 : iI s 70 = iI s 107) {i : Int} (hi : 0 ≤ i ∧ i + 6 ≤ (L : Int)) {ce sl : Nat} (hce : ce + 29 ≤ 601024) (hsl : sl + 222 ≤ 7293034) (hk : ∀ (A : Nat → Nat) (t : PS), Bd t → RLx t → iI t 89 = 1 → iI t 12 ≤ 8 → iI t 70 = iI t 107 → WS k 1894 [(0, .ref q1), (1, .ref (A 0)), (2, .ref (A 179)), (3, .ref (A 517)), (4, .int (Int32.ofInt i))] [] (Wd A dT t) (ce + 29) (sl + 222)) : WS k 912 [(0, .ref q1), (1, .ref (A 0)), (2, .ref (A 179)), (3, .ref (A 517)), (4, .int (Int32.ofInt i))] [] (Wd A dT s) ce sl := by
  have F : Fm [73] [1460, 202, 204, 205, 206, 207, 208, 209, 210, 211, 212, 213, 214, 215, 216, 217, 218, 219, 220, 221, 222, 223, 224, 225, 226, 227, 203] s s := fm_rf _ _ s
  have b1 : (0 : Int) ≤ iI s 70 ∧ iI s 70 ≤ 40 := I.1 70
  have b2 : (0 : Int) ≤ iI s 107 ∧ iI s 107 ≤ 40 := I.1 107
  have b3 : (0 : Int) ≤ iI s 12 ∧ iI s 12 ≤ 9 := I.1 12
  have b4 : (1 : Int) ≤ iI s 89 ∧ iI s 89 ≤ 8 := I.1 89
  refine z_aload_n X (x := A 0) (show cdA 350 912 = some (.aload_n 1, 1, 0, 0, 0) from rfl) (List.Mem.tail _ (List.Mem.head _)) ?_
  refine z_aload_n X (x := q1) (show cdA 350 913 = some (.aload_n 0, 1, 0, 0, 0) from rfl) (List.Mem.head _) ?_
  refine z_load X (x := i) (show cdA 350 914 = some (.iload 4, 2, 0, 0, 0) from rfl) (List.Mem.tail _ (List.Mem.tail _ (List.Mem.tail _ (List.Mem.tail _ (List.Mem.head _))))) ?_
  refine z_const X (show cdA 350 916 = some (.iconst 1, 1, 0, 0, 0) from rfl) ?_
  refine z_add X (show cdA 350 917 = some (.iadd, 1, 0, 0, 0) from rfl) ?_
  refine z_sld X S hL (show cdA 350 918 = some (.iaload, 1, 0, 0, 0) from rfl) (show 0 ≤ (i + 1) ∧ (i + 1) < (L : Int) by omega) ?_
  have sr5 : rng (sc xs (i + 1)) := sc_rng
  refine z_aload_n X (x := A 517) (show cdA 350 919 = some (.aload_n 3, 1, 0, 0, 0) from rfl) (List.Mem.tail _ (List.Mem.tail _ (List.Mem.tail _ (List.Mem.head _)))) ?_
  refine z_callL X (rm := rmN 329) (As := [.ref (A 0), .int (Int32.ofInt (sc xs (i + 1))), .ref (A 517)]) (st := []) (show cdA 350 920 = some (.invokestatic 198, 3, 329, 6, 0) from rfl) (by decide) rfl (by rw [E.1, E.2.1, E.2.2.1]; exact lw_edge G I (by omega)) ⟨by rw [E.2.2.2]; exact (show 9 + 1 ≤ 2048 by omega), by rw [E.2.2.2]; exact (show 8 + (4 + 11) + 173 ≤ 84000 by omega), by rw [E.2.2.2]; exact (show ce + 1 ≤ 601024 by omega), by rw [E.2.2.2]; exact (show sl + 6 ≤ 7293034 by omega)⟩ (Nat.le_of_ble_eq_true rfl) (fun vv A s6 hA2 hq => ?_) (fun ee A s6 hA2 hq => ?_)
  rotate_left
  · obtain ⟨Is6, Fs6, e7, hv, hrs6, hps6⟩ := hq; cases hv
  obtain ⟨Is6, Fs6, e7, hv, hrs6, hps6⟩ := hq
  cases hv
  rw [← hA2 0 (by decide)]
  rw [← hA2 179 (by decide)]
  rw [← hA2 517 (by decide)]
  have Gs6 := fm_ts F Fs6 (by decide) (by decide)
  have JRLx_s6 : RLx s6 := RLx_fm Fs6 (by decide) jR
  have ws6_70 : iI s6 70 = iI s 70 := fm_i Fs6 (by decide)
  have ws6_107 : iI s6 107 = iI s 107 := fm_i Fs6 (by decide)
  have ws6_12 : iI s6 12 = iI s 12 := fm_i Fs6 (by decide)
  have ws6_89 : iI s6 89 = iI s 89 := fm_i Fs6 (by decide)
  show WS k 923 [(0, .ref q1), (1, .ref (A 0)), (2, .ref (A 179)), (3, .ref (A 517)), (4, .int (Int32.ofInt i))] [.int (Int32.ofInt e7)] (Wd A dT s6) (ce + 1) (sl + 6)
  refine z_store X (lv' := [(5, .int (Int32.ofInt e7)), (0, .ref q1), (1, .ref (A 0)), (2, .ref (A 179)), (3, .ref (A 517)), (4, .int (Int32.ofInt i))]) (show cdA 350 923 = some (.istore 5, 2, 0, 0, 0) from rfl) (by decide) (fun _ h => h) ?_
  refine z_aload_n X (x := A 179) (show cdA 350 925 = some (.aload_n 2, 1, 0, 0, 0) from rfl) (List.Mem.tail _ (List.Mem.tail _ (List.Mem.tail _ (List.Mem.head _)))) ?_
  refine z_aload_n X (x := q1) (show cdA 350 926 = some (.aload_n 0, 1, 0, 0, 0) from rfl) (List.Mem.tail _ (List.Mem.head _)) ?_
  refine z_load X (x := i) (show cdA 350 927 = some (.iload 4, 2, 0, 0, 0) from rfl) (List.Mem.tail _ (List.Mem.tail _ (List.Mem.tail _ (List.Mem.tail _ (List.Mem.tail _ (List.Mem.head _)))))) ?_
  refine z_const X (show cdA 350 929 = some (.iconst 1, 1, 0, 0, 0) from rfl) ?_
  refine z_add X (show cdA 350 930 = some (.iadd, 1, 0, 0, 0) from rfl) ?_
  refine z_sld X S hL (show cdA 350 931 = some (.iaload, 1, 0, 0, 0) from rfl) (show 0 ≤ (i + 1) ∧ (i + 1) < (L : Int) by omega) ?_
  have sr8 : rng (sc xs (i + 1)) := sc_rng
  refine z_callV X 179 (rm := rmN 246) (As := [.int (Int32.ofInt (sc xs (i + 1)))]) (st := []) (show cdA 350 932 = some (.invokevirtual 200, 3, 246, 0, 0) from rfl) rfl (by decide) rfl (by rw [E.1, E.2.1, E.2.2.1]; exact k_edge G Is6 JRLx_s6 (by first | exact ⟨sr8.1, sr8.2⟩ | omega)) ⟨by rw [E.2.2.2]; exact (show 11 + 1 ≤ 2048 by omega), by rw [E.2.2.2]; exact (show 8 + (6 + 11) + 212 ≤ 84000 by omega), by rw [E.2.2.2]; exact (show (ce + 1) + 0 ≤ 601024 by omega), by rw [E.2.2.2]; exact (show (sl + 6) + 0 ≤ 7293034 by omega)⟩ (Nat.le_of_ble_eq_true rfl) (fun vv s9 hq => ?_) (fun ee s9 hq => ?_)
  rotate_left
  · obtain ⟨Is9, Fs9, JRLx_s9, e10, hv, hrs9, hps9⟩ := hq; cases hv
  obtain ⟨Is9, Fs9, JRLx_s9, e10, hv, hrs9, hps9⟩ := hq
  cases hv
  have Gs9 := fm_ts Gs6 Fs9 (by decide) (by decide)
  have JRLx_s9 : RLx s9 := RLx_fm Fs9 (by decide) JRLx_s6
  have ws9_70 : iI s9 70 = iI s6 70 := fm_i Fs9 (by decide)
  have ws9_107 : iI s9 107 = iI s6 107 := fm_i Fs9 (by decide)
  have ws9_12 : iI s9 12 = iI s6 12 := fm_i Fs9 (by decide)
  have ws9_89 : iI s9 89 = iI s6 89 := fm_i Fs9 (by decide)
  have wos9 : iO s9 = iO s6 := fm_o Fs9 (by decide)
  show WS k 935 [(5, .int (Int32.ofInt e7)), (0, .ref q1), (1, .ref (A 0)), (2, .ref (A 179)), (3, .ref (A 517)), (4, .int (Int32.ofInt i))] [.int (Int32.ofInt e10)] (Wd A dT s9) (ce + 1) (sl + 6)
  refine z_store X (lv' := [(6, .int (Int32.ofInt e10)), (5, .int (Int32.ofInt e7)), (0, .ref q1), (1, .ref (A 0)), (2, .ref (A 179)), (3, .ref (A 517)), (4, .int (Int32.ofInt i))]) (show cdA 350 935 = some (.istore 6, 2, 0, 0, 0) from rfl) (by decide) (fun _ h => h) ?_
  refine z_goto X (t := 1894) (show cdA 350 937 = some (.goto 957, 3, 0, 0, 0) from rfl) (by decide) ?_
  refine w_widen (ce' := ce + 29) (sl' := sl + 222) (by omega) (by omega) ?_
  exact WS_lv (lv := [(0, .ref q1), (1, .ref (A 0)), (2, .ref (A 179)), (3, .ref (A 517)), (4, .int (Int32.ofInt i))]) (List.forall_mem_cons.mpr ⟨(List.Mem.tail _ (List.Mem.tail _ (List.Mem.head _))), (List.forall_mem_cons.mpr ⟨(List.Mem.tail _ (List.Mem.tail _ (List.Mem.tail _ (List.Mem.head _)))), (List.forall_mem_cons.mpr ⟨(List.Mem.tail _ (List.Mem.tail _ (List.Mem.tail _ (List.Mem.tail _ (List.Mem.head _))))), (List.forall_mem_cons.mpr ⟨(List.Mem.tail _ (List.Mem.tail _ (List.Mem.tail _ (List.Mem.tail _ (List.Mem.tail _ (List.Mem.head _)))))), (List.forall_mem_cons.mpr ⟨(List.Mem.tail _ (List.Mem.tail _ (List.Mem.tail _ (List.Mem.tail _ (List.Mem.tail _ (List.Mem.tail _ (List.Mem.head _))))))), (fun q h => absurd h List.not_mem_nil)⟩)⟩)⟩)⟩)⟩) (hk A _ Is9 JRLx_s9 (by omega) (by omega) (by omega))
theorem lc_18 (G : GX l s0 D tys a0 dT) (GR : RS0 s0) (SF : SF0 s0) (GT : TXs0 s0) {k : kx_T} (X : AX k 350 dT) (E : kL k = l ∧ kS0 k = s0 ∧ kD k = D ∧ kR k = room_1) {q1 L : Nat} {xs : Nat → Int32} (S : SX k q1 L xs) (hL : L ≤ 3072) (I : Bd s) (jR : RLx s) (p1 : iI s 89 = 1) (p2 : iI s 12 ≤ 8) (p3 : iI s 70 = iI s 107) {i : Int} (hi : 0 ≤ i ∧ i + 6 ≤ (L : Int)) {ce sl : Nat} (hce : ce + 29 ≤ 601024) (hsl : sl + 222 ≤ 7293034) (hk : ∀ (A : Nat → Nat) (t : PS), Bd t → RLx t → iI t 89 = 1 → iI t 12 ≤ 8 → iI t 70 = iI t 107 → WS k 1894 [(0, .ref q1), (1, .ref (A 0)), (2, .ref (A 179)), (3, .ref (A 517)), (4, .int (Int32.ofInt i))] [] (Wd A dT t) (ce + 29) (sl + 222)) : WS k 940 [(0, .ref q1), (1, .ref (A 0)), (2, .ref (A 179)), (3, .ref (A 517)), (4, .int (Int32.ofInt i))] [] (Wd A dT s) ce sl := by
  have F : Fm [22, 23, 24, 73, 77, 75, 78, 79, 80, 81] [33, 26, 27, 28, 29, 30, 31, 32, 20, 202, 204, 205, 206, 207, 208, 209, 210, 211, 212, 213, 214, 215, 216, 217, 218, 219, 220, 221, 222, 223, 224, 225, 226, 227, 203, 161, 230, 231, 232] s s := fm_rf _ _ s
  have b1 : (0 : Int) ≤ iI s 70 ∧ iI s 70 ≤ 40 := I.1 70
  have b2 : (0 : Int) ≤ iI s 107 ∧ iI s 107 ≤ 40 := I.1 107
  have b3 : (0 : Int) ≤ iI s 12 ∧ iI s 12 ≤ 9 := I.1 12
  have b4 : (1 : Int) ≤ iI s 89 ∧ iI s 89 ≤ 8 := I.1 89
  refine z_aload_n X (x := A 0) (show cdA 350 940 = some (.aload_n 1, 1, 0, 0, 0) from rfl) (List.Mem.tail _ (List.Mem.head _)) ?_
  refine z_callV X 0 (rm := rmN 153) (As := []) (st := []) (show cdA 350 941 = some (.invokevirtual 201, 3, 153, 0, 0) from rfl) rfl (by decide) rfl (by rw [E.1, E.2.1, E.2.2.1]; exact cs_holds G I ) ⟨by rw [E.2.2.2]; exact (show 11 + 1 ≤ 2048 by omega), by rw [E.2.2.2]; exact (show 8 + (2 + 11) + 224 ≤ 84000 by omega), by rw [E.2.2.2]; exact (show ce + 0 ≤ 601024 by omega), by rw [E.2.2.2]; exact (show sl + 0 ≤ 7293034 by omega)⟩ (Nat.le_of_ble_eq_true rfl) (fun vv s5 hq => ?_) (fun ee s5 hq => ?_)
  rotate_left
  · obtain ⟨Is5, Fs5, e6, hv, hrs5, hps5⟩ := hq; cases hv
  obtain ⟨Is5, Fs5, e6, hv, hrs5, hps5⟩ := hq
  cases hv
  have Gs5 := fm_ts F Fs5 (by decide) (by decide)
  have JRLx_s5 : RLx s5 := RLx_fm Fs5 (by decide) jR
  have ws5_70 : iI s5 70 = iI s 70 := fm_i Fs5 (by decide)
  have ws5_107 : iI s5 107 = iI s 107 := fm_i Fs5 (by decide)
  have ws5_12 : iI s5 12 = iI s 12 := fm_i Fs5 (by decide)
  have ws5_89 : iI s5 89 = iI s 89 := fm_i Fs5 (by decide)
  have wos5 : iO s5 = iO s := fm_o Fs5 (by decide)
  show WS k 944 [(0, .ref q1), (1, .ref (A 0)), (2, .ref (A 179)), (3, .ref (A 517)), (4, .int (Int32.ofInt i))] [.int (Int32.ofInt e6)] (Wd A dT s5) ce sl
  refine w_pop X.1 (ax_d X (show cdA 350 944 = some (.pop, 1, 0, 0, 0) from rfl)) rfl ?_
  refine z_aload_n X (x := A 179) (show cdA 350 945 = some (.aload_n 2, 1, 0, 0, 0) from rfl) (List.Mem.tail _ (List.Mem.tail _ (List.Mem.head _))) ?_
  refine z_callV X 179 (rm := rmN 247) (As := []) (st := []) (show cdA 350 946 = some (.invokevirtual 205, 3, 247, 0, 0) from rfl) rfl (by decide) rfl (by rw [E.1, E.2.1, E.2.2.1]; exact k_holds G Is5 JRLx_s5 ) ⟨by rw [E.2.2.2]; exact (show 39 + 1 ≤ 2048 by first | (clear hps5; omega) | omega), by rw [E.2.2.2]; exact (show 8 + (2 + 11) + 1622 ≤ 84000 by first | (clear hps5; omega) | omega), by rw [E.2.2.2]; exact (show ce + 0 ≤ 601024 by first | (clear hps5; omega) | omega), by rw [E.2.2.2]; exact (show sl + 0 ≤ 7293034 by first | (clear hps5; omega) | omega)⟩ (Nat.le_of_ble_eq_true rfl) (fun vv s7 hq => ?_) (fun ee s7 hq => ?_)
  rotate_left
  · obtain ⟨Is7, Fs7, JRLx_s7, e8, hv, hrs7, hps7⟩ := hq; cases hv
  obtain ⟨Is7, Fs7, JRLx_s7, e8, hv, hrs7, hps7⟩ := hq
  cases hv
  have Gs7 := fm_ts Gs5 Fs7 (by decide) (by decide)
  have JRLx_s7 : RLx s7 := RLx_fm Fs7 (by decide) JRLx_s5
  have ws7_70 : iI s7 70 = iI s5 70 := fm_i Fs7 (by decide)
  have ws7_107 : iI s7 107 = iI s5 107 := fm_i Fs7 (by decide)
  have ws7_12 : iI s7 12 = iI s5 12 := fm_i Fs7 (by decide)
  have ws7_89 : iI s7 89 = iI s5 89 := fm_i Fs7 (by decide)
  have wos7 : iO s7 = iO s5 := fm_o Fs7 (by decide)
  show WS k 949 [(0, .ref q1), (1, .ref (A 0)), (2, .ref (A 179)), (3, .ref (A 517)), (4, .int (Int32.ofInt i))] [.int (Int32.ofInt e8)] (Wd A dT s7) ce sl
  refine w_pop X.1 (ax_d X (show cdA 350 949 = some (.pop, 1, 0, 0, 0) from rfl)) rfl ?_
  refine z_goto X (t := 1894) (show cdA 350 950 = some (.goto 944, 3, 0, 0, 0) from rfl) (by decide) ?_
  refine w_widen (ce' := ce + 29) (sl' := sl + 222) (by first | (clear hps5; omega) | omega) (by first | (clear hps5; omega) | omega) ?_
  exact WS_lv (lv := [(0, .ref q1), (1, .ref (A 0)), (2, .ref (A 179)), (3, .ref (A 517)), (4, .int (Int32.ofInt i))]) (List.forall_mem_cons.mpr ⟨(List.Mem.head _), (List.forall_mem_cons.mpr ⟨(List.Mem.tail _ (List.Mem.head _)), (List.forall_mem_cons.mpr ⟨(List.Mem.tail _ (List.Mem.tail _ (List.Mem.head _))), (List.forall_mem_cons.mpr ⟨(List.Mem.tail _ (List.Mem.tail _ (List.Mem.tail _ (List.Mem.head _)))), (List.forall_mem_cons.mpr ⟨(List.Mem.tail _ (List.Mem.tail _ (List.Mem.tail _ (List.Mem.tail _ (List.Mem.head _))))), (fun q h => absurd h List.not_mem_nil)⟩)⟩)⟩)⟩)⟩) (hk A _ Is7 JRLx_s7 (by first | (clear hps5; omega) | omega) (by first | (clear hps5; omega) | omega) (by first | (clear hps5; omega) | omega))
theorem lc_19 (G : GX l s0 D tys a0 dT) (GR : RS0 s0) (SF : SF0 s0) (GT : TXs0 s0) {k : kx_T} (X : AX k 350 dT) (E : kL k = l ∧ kS0 k = s0 ∧ kD k = D ∧ kR k = room_1) {q1 L : Nat} {xs : Nat → Int32} (S : SX k q1 L xs) (hL : L ≤ 3072) (I : Bd s) (jR : RLx s) (p1 : iI s 89 = 1) (p2 : iI s 12 ≤ 8) (p3 : iI s 70 = iI s 107) {i : Int} (hi : 0 ≤ i ∧ i + 6 ≤ (L : Int)) {ce sl : Nat} (hce : ce + 29 ≤ 601024) (hsl : sl + 222 ≤ 7293034) (hk : ∀ (A : Nat → Nat) (t : PS), Bd t → RLx t → iI t 89 = 1 → iI t 12 ≤ 8 → iI t 70 = iI t 107 → WS k 1894 [(0, .ref q1), (1, .ref (A 0)), (2, .ref (A 179)), (3, .ref (A 517)), (4, .int (Int32.ofInt i))] [] (Wd A dT t) (ce + 29) (sl + 222)) : WS k 953 [(0, .ref q1), (1, .ref (A 0)), (2, .ref (A 179)), (3, .ref (A 517)), (4, .int (Int32.ofInt i))] [] (Wd A dT s) ce sl := by
  have F : Fm [22, 23, 24, 73, 77, 75, 78, 79, 80, 81] [33, 26, 27, 28, 29, 30, 31, 32, 20, 36, 37, 35, 202, 204, 205, 206, 207, 208, 209, 210, 211, 212, 213, 214, 215, 216, 217, 218, 219, 220, 221, 222, 223, 224, 225, 226, 227, 203, 161, 230, 233] s s := fm_rf _ _ s
  have b1 : (0 : Int) ≤ iI s 70 ∧ iI s 70 ≤ 40 := I.1 70
  have b2 : (0 : Int) ≤ iI s 107 ∧ iI s 107 ≤ 40 := I.1 107
  have b3 : (0 : Int) ≤ iI s 12 ∧ iI s 12 ≤ 9 := I.1 12
  have b4 : (1 : Int) ≤ iI s 89 ∧ iI s 89 ≤ 8 := I.1 89
  refine z_aload_n X (x := A 0) (show cdA 350 953 = some (.aload_n 1, 1, 0, 0, 0) from rfl) (List.Mem.tail _ (List.Mem.head _)) ?_
  refine z_callV X 0 (rm := rmN 154) (As := []) (st := []) (show cdA 350 954 = some (.invokevirtual 206, 3, 154, 0, 0) from rfl) rfl (by decide) rfl (by rw [E.1, E.2.1, E.2.2.1]; exact cs_cost G I ) ⟨by rw [E.2.2.2]; exact (show 12 + 1 ≤ 2048 by omega), by rw [E.2.2.2]; exact (show 8 + (1 + 11) + 237 ≤ 84000 by omega), by rw [E.2.2.2]; exact (show ce + 0 ≤ 601024 by omega), by rw [E.2.2.2]; exact (show sl + 0 ≤ 7293034 by omega)⟩ (Nat.le_of_ble_eq_true rfl) (fun vv s5 hq => ?_) (fun ee s5 hq => ?_)
  rotate_left
  · obtain ⟨Is5, Fs5, e6, hv, hrs5, hps5⟩ := hq; cases hv
  obtain ⟨Is5, Fs5, e6, hv, hrs5, hps5⟩ := hq
  cases hv
  have Gs5 := fm_ts F Fs5 (by decide) (by decide)
  have JRLx_s5 : RLx s5 := RLx_fm Fs5 (by decide) jR
  have ws5_70 : iI s5 70 = iI s 70 := fm_i Fs5 (by decide)
  have ws5_107 : iI s5 107 = iI s 107 := fm_i Fs5 (by decide)
  have ws5_12 : iI s5 12 = iI s 12 := fm_i Fs5 (by decide)
  have ws5_89 : iI s5 89 = iI s 89 := fm_i Fs5 (by decide)
  have wos5 : iO s5 = iO s := fm_o Fs5 (by decide)
  show WS k 957 [(0, .ref q1), (1, .ref (A 0)), (2, .ref (A 179)), (3, .ref (A 517)), (4, .int (Int32.ofInt i))] [.int (Int32.ofInt e6)] (Wd A dT s5) ce sl
  refine w_pop X.1 (ax_d X (show cdA 350 957 = some (.pop, 1, 0, 0, 0) from rfl)) rfl ?_
  refine z_aload_n X (x := A 179) (show cdA 350 958 = some (.aload_n 2, 1, 0, 0, 0) from rfl) (List.Mem.tail _ (List.Mem.tail _ (List.Mem.head _))) ?_
  refine z_callV X 179 (rm := rmN 253) (As := []) (st := []) (show cdA 350 959 = some (.invokevirtual 209, 3, 253, 0, 0) from rfl) rfl (by decide) rfl (by rw [E.1, E.2.1, E.2.2.1]; exact k_cost G Is5 JRLx_s5 ) ⟨by rw [E.2.2.2]; exact (show 41 + 1 ≤ 2048 by omega), by rw [E.2.2.2]; exact (show 8 + (1 + 11) + 1663 ≤ 84000 by omega), by rw [E.2.2.2]; exact (show ce + 0 ≤ 601024 by omega), by rw [E.2.2.2]; exact (show sl + 0 ≤ 7293034 by omega)⟩ (Nat.le_of_ble_eq_true rfl) (fun vv s7 hq => ?_) (fun ee s7 hq => ?_)
  rotate_left
  · obtain ⟨Is7, Fs7, JRLx_s7, e8, hv, hrs7, hps7⟩ := hq; cases hv
  obtain ⟨Is7, Fs7, JRLx_s7, e8, hv, hrs7, hps7⟩ := hq
  cases hv
  have Gs7 := fm_ts Gs5 Fs7 (by decide) (by decide)
  have JRLx_s7 : RLx s7 := RLx_fm Fs7 (by decide) JRLx_s5
  have ws7_70 : iI s7 70 = iI s5 70 := fm_i Fs7 (by decide)
  have ws7_107 : iI s7 107 = iI s5 107 := fm_i Fs7 (by decide)
  have ws7_12 : iI s7 12 = iI s5 12 := fm_i Fs7 (by decide)
  have ws7_89 : iI s7 89 = iI s5 89 := fm_i Fs7 (by decide)
  have wos7 : iO s7 = iO s5 := fm_o Fs7 (by decide)
  show WS k 962 [(0, .ref q1), (1, .ref (A 0)), (2, .ref (A 179)), (3, .ref (A 517)), (4, .int (Int32.ofInt i))] [.int (Int32.ofInt e8)] (Wd A dT s7) ce sl
  refine w_pop X.1 (ax_d X (show cdA 350 962 = some (.pop, 1, 0, 0, 0) from rfl)) rfl ?_
  refine z_goto X (t := 1894) (show cdA 350 963 = some (.goto 931, 3, 0, 0, 0) from rfl) (by decide) ?_
  refine w_widen (ce' := ce + 29) (sl' := sl + 222) (by omega) (by omega) ?_
  exact WS_lv (lv := [(0, .ref q1), (1, .ref (A 0)), (2, .ref (A 179)), (3, .ref (A 517)), (4, .int (Int32.ofInt i))]) (List.forall_mem_cons.mpr ⟨(List.Mem.head _), (List.forall_mem_cons.mpr ⟨(List.Mem.tail _ (List.Mem.head _)), (List.forall_mem_cons.mpr ⟨(List.Mem.tail _ (List.Mem.tail _ (List.Mem.head _))), (List.forall_mem_cons.mpr ⟨(List.Mem.tail _ (List.Mem.tail _ (List.Mem.tail _ (List.Mem.head _)))), (List.forall_mem_cons.mpr ⟨(List.Mem.tail _ (List.Mem.tail _ (List.Mem.tail _ (List.Mem.tail _ (List.Mem.head _))))), (fun q h => absurd h List.not_mem_nil)⟩)⟩)⟩)⟩)⟩) (hk A _ Is7 JRLx_s7 (by omega) (by omega) (by omega))
theorem lc_20 (G : GX l s0 D tys a0 dT) (GR : RS0 s0) (SF : SF0 s0) (GT : TXs0 s0) {k : kx_T} (X : AX k 350 dT) (E : kL k = l ∧ kS0 k = s0 ∧ kD k = D ∧ kR k = room_1) {q1 L : Nat} {xs : Nat → Int32} (S : SX k q1 L xs) (hL : L ≤ 3072) (I : Bd s) (jR : RLx s) (p1 : iI s 89 = 1) (p2 : iI s 12 ≤ 8) (p3 : iI s 70 = iI s 107) {i : Int} (hi : 0 ≤ i ∧ i + 6 ≤ (L : Int)) {ce sl : Nat} (hce : ce + 29 ≤ 601024) (hsl : sl + 222 ≤ 7293034) (hk : ∀ (A : Nat → Nat) (t : PS), Bd t → RLx t → iI t 89 = 1 → iI t 12 ≤ 8 → iI t 70 = iI t 107 → WS k 1894 [(0, .ref q1), (1, .ref (A 0)), (2, .ref (A 179)), (3, .ref (A 517)), (4, .int (Int32.ofInt i))] [] (Wd A dT t) (ce + 29) (sl + 222)) : WS k 966 [(0, .ref q1), (1, .ref (A 0)), (2, .ref (A 179)), (3, .ref (A 517)), (4, .int (Int32.ofInt i))] [] (Wd A dT s) ce sl := by
  have F : Fm [22, 23, 24, 25, 26, 27, 73, 77, 75, 78, 79, 80, 81, 92, 93, 94] [33, 26, 27, 28, 29, 30, 31, 32, 20, 36, 37, 21, 35, 38, 1022, 1023, 1460, 202, 204, 205, 206, 207, 208, 209, 210, 211, 212, 213, 214, 215, 216, 217, 218, 219, 220, 221, 222, 223, 224, 225, 226, 227, 203, 161, 230, 233, 231, 232, 228] s s := fm_rf _ _ s
  have b1 : (0 : Int) ≤ iI s 70 ∧ iI s 70 ≤ 40 := I.1 70
  have b2 : (0 : Int) ≤ iI s 107 ∧ iI s 107 ≤ 40 := I.1 107
  have b3 : (0 : Int) ≤ iI s 12 ∧ iI s 12 ≤ 9 := I.1 12
  have b4 : (1 : Int) ≤ iI s 89 ∧ iI s 89 ≤ 8 := I.1 89
  refine z_aload_n X (x := A 0) (show cdA 350 966 = some (.aload_n 1, 1, 0, 0, 0) from rfl) (List.Mem.tail _ (List.Mem.head _)) ?_
  refine z_aload_n X (x := q1) (show cdA 350 967 = some (.aload_n 0, 1, 0, 0, 0) from rfl) (List.Mem.head _) ?_
  refine z_load X (x := i) (show cdA 350 968 = some (.iload 4, 2, 0, 0, 0) from rfl) (List.Mem.tail _ (List.Mem.tail _ (List.Mem.tail _ (List.Mem.tail _ (List.Mem.head _))))) ?_
  refine z_const X (show cdA 350 970 = some (.iconst 1, 1, 0, 0, 0) from rfl) ?_
  refine z_add X (show cdA 350 971 = some (.iadd, 1, 0, 0, 0) from rfl) ?_
  refine z_sld X S hL (show cdA 350 972 = some (.iaload, 1, 0, 0, 0) from rfl) (show 0 ≤ (i + 1) ∧ (i + 1) < (L : Int) by omega) ?_
  have sr5 : rng (sc xs (i + 1)) := sc_rng
  refine z_aload_n X (x := A 517) (show cdA 350 973 = some (.aload_n 3, 1, 0, 0, 0) from rfl) (List.Mem.tail _ (List.Mem.tail _ (List.Mem.tail _ (List.Mem.head _)))) ?_
  refine z_callL X (rm := rmN 330) (As := [.ref (A 0), .int (Int32.ofInt (sc xs (i + 1))), .ref (A 517)]) (st := []) (show cdA 350 974 = some (.invokestatic 210, 3, 330, 6, 0) from rfl) (by decide) rfl (by rw [E.1, E.2.1, E.2.2.1]; exact lw_better G I (by omega)) ⟨by rw [E.2.2.2]; exact (show 14 + 1 ≤ 2048 by omega), by rw [E.2.2.2]; exact (show 8 + (4 + 11) + 289 ≤ 84000 by omega), by rw [E.2.2.2]; exact (show ce + 1 ≤ 601024 by omega), by rw [E.2.2.2]; exact (show sl + 6 ≤ 7293034 by omega)⟩ (Nat.le_of_ble_eq_true rfl) (fun vv A s6 hA2 hq => ?_) (fun ee A s6 hA2 hq => ?_)
  rotate_left
  · obtain ⟨Is6, Fs6, e7, hv, hrs6, hps6⟩ := hq; cases hv
  obtain ⟨Is6, Fs6, e7, hv, hrs6, hps6⟩ := hq
  cases hv
  rw [← hA2 0 (by decide)]
  rw [← hA2 179 (by decide)]
  rw [← hA2 517 (by decide)]
  have Gs6 := fm_ts F Fs6 (by decide) (by decide)
  have JRLx_s6 : RLx s6 := RLx_fm Fs6 (by decide) jR
  have ws6_70 : iI s6 70 = iI s 70 := fm_i Fs6 (by decide)
  have ws6_107 : iI s6 107 = iI s 107 := fm_i Fs6 (by decide)
  have ws6_12 : iI s6 12 = iI s 12 := fm_i Fs6 (by decide)
  have ws6_89 : iI s6 89 = iI s 89 := fm_i Fs6 (by decide)
  show WS k 977 [(0, .ref q1), (1, .ref (A 0)), (2, .ref (A 179)), (3, .ref (A 517)), (4, .int (Int32.ofInt i))] [.int (Int32.ofInt e7)] (Wd A dT s6) (ce + 1) (sl + 6)
  refine z_store X (lv' := [(5, .int (Int32.ofInt e7)), (0, .ref q1), (1, .ref (A 0)), (2, .ref (A 179)), (3, .ref (A 517)), (4, .int (Int32.ofInt i))]) (show cdA 350 977 = some (.istore 5, 2, 0, 0, 0) from rfl) (by decide) (fun _ h => h) ?_
  refine z_aload_n X (x := A 179) (show cdA 350 979 = some (.aload_n 2, 1, 0, 0, 0) from rfl) (List.Mem.tail _ (List.Mem.tail _ (List.Mem.tail _ (List.Mem.head _)))) ?_
  refine z_aload_n X (x := q1) (show cdA 350 980 = some (.aload_n 0, 1, 0, 0, 0) from rfl) (List.Mem.tail _ (List.Mem.head _)) ?_
  refine z_load X (x := i) (show cdA 350 981 = some (.iload 4, 2, 0, 0, 0) from rfl) (List.Mem.tail _ (List.Mem.tail _ (List.Mem.tail _ (List.Mem.tail _ (List.Mem.tail _ (List.Mem.head _)))))) ?_
  refine z_const X (show cdA 350 983 = some (.iconst 1, 1, 0, 0, 0) from rfl) ?_
  refine z_add X (show cdA 350 984 = some (.iadd, 1, 0, 0, 0) from rfl) ?_
  refine z_sld X S hL (show cdA 350 985 = some (.iaload, 1, 0, 0, 0) from rfl) (show 0 ≤ (i + 1) ∧ (i + 1) < (L : Int) by omega) ?_
  have sr8 : rng (sc xs (i + 1)) := sc_rng
  refine z_callV X 179 (rm := rmN 256) (As := [.int (Int32.ofInt (sc xs (i + 1)))]) (st := []) (show cdA 350 986 = some (.invokevirtual 212, 3, 256, 0, 0) from rfl) rfl (by decide) rfl (by rw [E.1, E.2.1, E.2.2.1]; exact k_better G Is6 JRLx_s6 (by first | exact ⟨sr8.1, sr8.2⟩ | omega)) ⟨by rw [E.2.2.2]; exact (show 42 + 1 ≤ 2048 by omega), by rw [E.2.2.2]; exact (show 8 + (2 + 11) + 1687 ≤ 84000 by omega), by rw [E.2.2.2]; exact (show (ce + 1) + 0 ≤ 601024 by omega), by rw [E.2.2.2]; exact (show (sl + 6) + 0 ≤ 7293034 by omega)⟩ (Nat.le_of_ble_eq_true rfl) (fun vv s9 hq => ?_) (fun ee s9 hq => ?_)
  rotate_left
  · obtain ⟨Is9, Fs9, JRLx_s9, e10, hv, hrs9, hps9⟩ := hq; cases hv
  obtain ⟨Is9, Fs9, JRLx_s9, e10, hv, hrs9, hps9⟩ := hq
  cases hv
  have Gs9 := fm_ts Gs6 Fs9 (by decide) (by decide)
  have JRLx_s9 : RLx s9 := RLx_fm Fs9 (by decide) JRLx_s6
  have ws9_70 : iI s9 70 = iI s6 70 := fm_i Fs9 (by decide)
  have ws9_107 : iI s9 107 = iI s6 107 := fm_i Fs9 (by decide)
  have ws9_12 : iI s9 12 = iI s6 12 := fm_i Fs9 (by decide)
  have ws9_89 : iI s9 89 = iI s6 89 := fm_i Fs9 (by decide)
  have wos9 : iO s9 = iO s6 := fm_o Fs9 (by decide)
  show WS k 989 [(5, .int (Int32.ofInt e7)), (0, .ref q1), (1, .ref (A 0)), (2, .ref (A 179)), (3, .ref (A 517)), (4, .int (Int32.ofInt i))] [.int (Int32.ofInt e10)] (Wd A dT s9) (ce + 1) (sl + 6)
  refine z_store X (lv' := [(6, .int (Int32.ofInt e10)), (5, .int (Int32.ofInt e7)), (0, .ref q1), (1, .ref (A 0)), (2, .ref (A 179)), (3, .ref (A 517)), (4, .int (Int32.ofInt i))]) (show cdA 350 989 = some (.istore 6, 2, 0, 0, 0) from rfl) (by decide) (fun _ h => h) ?_
  refine z_goto X (t := 1894) (show cdA 350 991 = some (.goto 903, 3, 0, 0, 0) from rfl) (by decide) ?_
  refine w_widen (ce' := ce + 29) (sl' := sl + 222) (by omega) (by omega) ?_
  exact WS_lv (lv := [(0, .ref q1), (1, .ref (A 0)), (2, .ref (A 179)), (3, .ref (A 517)), (4, .int (Int32.ofInt i))]) (List.forall_mem_cons.mpr ⟨(List.Mem.tail _ (List.Mem.tail _ (List.Mem.head _))), (List.forall_mem_cons.mpr ⟨(List.Mem.tail _ (List.Mem.tail _ (List.Mem.tail _ (List.Mem.head _)))), (List.forall_mem_cons.mpr ⟨(List.Mem.tail _ (List.Mem.tail _ (List.Mem.tail _ (List.Mem.tail _ (List.Mem.head _))))), (List.forall_mem_cons.mpr ⟨(List.Mem.tail _ (List.Mem.tail _ (List.Mem.tail _ (List.Mem.tail _ (List.Mem.tail _ (List.Mem.head _)))))), (List.forall_mem_cons.mpr ⟨(List.Mem.tail _ (List.Mem.tail _ (List.Mem.tail _ (List.Mem.tail _ (List.Mem.tail _ (List.Mem.tail _ (List.Mem.head _))))))), (fun q h => absurd h List.not_mem_nil)⟩)⟩)⟩)⟩)⟩) (hk A _ Is9 JRLx_s9 (by omega) (by omega) (by omega))
theorem lc_21 (G : GX l s0 D tys a0 dT) (GR : RS0 s0) (SF : SF0 s0) (GT : TXs0 s0) {k : kx_T} (X : AX k 350 dT) (E : kL k = l ∧ kS0 k = s0 ∧ kD k = D ∧ kR k = room_1) {q1 L : Nat} {xs : Nat → Int32} (S : SX k q1 L xs) (hL : L ≤ 3072) (I : Bd s) (jR : RLx s) (p1 : iI s 89 = 1) (p2 : iI s 12 ≤ 8) (p3 : iI s 70 = iI s 107) {i : Int} (hi : 0 ≤ i ∧ i + 6 ≤ (L : Int)) {ce sl : Nat} (hce : ce + 29 ≤ 601024) (hsl : sl + 222 ≤ 7293034) (hk : ∀ (A : Nat → Nat) (t : PS), Bd t → RLx t → iI t 89 = 1 → iI t 12 ≤ 8 → iI t 70 = iI t 107 → WS k 1894 [(0, .ref q1), (1, .ref (A 0)), (2, .ref (A 179)), (3, .ref (A 517)), (4, .int (Int32.ofInt i))] [] (Wd A dT t) (ce + 29) (sl + 222)) : WS k 994 [(0, .ref q1), (1, .ref (A 0)), (2, .ref (A 179)), (3, .ref (A 517)), (4, .int (Int32.ofInt i))] [] (Wd A dT s) ce sl := by
  have F : Fm [22, 23, 24, 25, 26, 27, 73, 77, 75, 78, 79, 80, 81, 92, 93, 94] [33, 26, 27, 28, 29, 30, 31, 32, 20, 36, 37, 21, 35, 38, 1022, 1023, 1460, 202, 204, 205, 206, 207, 208, 209, 210, 211, 212, 213, 214, 215, 216, 217, 218, 219, 220, 221, 222, 223, 224, 225, 226, 227, 203, 161, 230, 233, 231, 232, 228] s s := fm_rf _ _ s
  have b1 : (0 : Int) ≤ iI s 70 ∧ iI s 70 ≤ 40 := I.1 70
  have b2 : (0 : Int) ≤ iI s 107 ∧ iI s 107 ≤ 40 := I.1 107
  have b3 : (0 : Int) ≤ iI s 12 ∧ iI s 12 ≤ 9 := I.1 12
  have b4 : (1 : Int) ≤ iI s 89 ∧ iI s 89 ≤ 8 := I.1 89
  refine z_aload_n X (x := A 0) (show cdA 350 994 = some (.aload_n 1, 1, 0, 0, 0) from rfl) (List.Mem.tail _ (List.Mem.head _)) ?_
  refine z_aload_n X (x := q1) (show cdA 350 995 = some (.aload_n 0, 1, 0, 0, 0) from rfl) (List.Mem.head _) ?_
  refine z_load X (x := i) (show cdA 350 996 = some (.iload 4, 2, 0, 0, 0) from rfl) (List.Mem.tail _ (List.Mem.tail _ (List.Mem.tail _ (List.Mem.tail _ (List.Mem.head _))))) ?_
  refine z_const X (show cdA 350 998 = some (.iconst 1, 1, 0, 0, 0) from rfl) ?_
  refine z_add X (show cdA 350 999 = some (.iadd, 1, 0, 0, 0) from rfl) ?_
  refine z_sld X S hL (show cdA 350 1000 = some (.iaload, 1, 0, 0, 0) from rfl) (show 0 ≤ (i + 1) ∧ (i + 1) < (L : Int) by omega) ?_
  have sr5 : rng (sc xs (i + 1)) := sc_rng
  refine z_aload_n X (x := A 517) (show cdA 350 1001 = some (.aload_n 3, 1, 0, 0, 0) from rfl) (List.Mem.tail _ (List.Mem.tail _ (List.Mem.tail _ (List.Mem.head _)))) ?_
  refine z_callL X (rm := rmN 331) (As := [.ref (A 0), .int (Int32.ofInt (sc xs (i + 1))), .ref (A 517)]) (st := []) (show cdA 350 1002 = some (.invokestatic 213, 3, 331, 6, 0) from rfl) (by decide) rfl (by rw [E.1, E.2.1, E.2.2.1]; exact lw_grow G I (by omega)) ⟨by rw [E.2.2.2]; exact (show 14 + 1 ≤ 2048 by omega), by rw [E.2.2.2]; exact (show 8 + (4 + 11) + 290 ≤ 84000 by omega), by rw [E.2.2.2]; exact (show ce + 1 ≤ 601024 by omega), by rw [E.2.2.2]; exact (show sl + 6 ≤ 7293034 by omega)⟩ (Nat.le_of_ble_eq_true rfl) (fun vv A s6 hA2 hq => ?_) (fun ee A s6 hA2 hq => ?_)
  rotate_left
  · obtain ⟨Is6, Fs6, e7, hv, hrs6, hps6⟩ := hq; cases hv
  obtain ⟨Is6, Fs6, e7, hv, hrs6, hps6⟩ := hq
  cases hv
  rw [← hA2 0 (by decide)]
  rw [← hA2 179 (by decide)]
  rw [← hA2 517 (by decide)]
  have Gs6 := fm_ts F Fs6 (by decide) (by decide)
  have JRLx_s6 : RLx s6 := RLx_fm Fs6 (by decide) jR
  have ws6_70 : iI s6 70 = iI s 70 := fm_i Fs6 (by decide)
  have ws6_107 : iI s6 107 = iI s 107 := fm_i Fs6 (by decide)
  have ws6_12 : iI s6 12 = iI s 12 := fm_i Fs6 (by decide)
  have ws6_89 : iI s6 89 = iI s 89 := fm_i Fs6 (by decide)
  show WS k 1005 [(0, .ref q1), (1, .ref (A 0)), (2, .ref (A 179)), (3, .ref (A 517)), (4, .int (Int32.ofInt i))] [.int (Int32.ofInt e7)] (Wd A dT s6) (ce + 1) (sl + 6)
  refine z_store X (lv' := [(5, .int (Int32.ofInt e7)), (0, .ref q1), (1, .ref (A 0)), (2, .ref (A 179)), (3, .ref (A 517)), (4, .int (Int32.ofInt i))]) (show cdA 350 1005 = some (.istore 5, 2, 0, 0, 0) from rfl) (by decide) (fun _ h => h) ?_
  refine z_aload_n X (x := A 179) (show cdA 350 1007 = some (.aload_n 2, 1, 0, 0, 0) from rfl) (List.Mem.tail _ (List.Mem.tail _ (List.Mem.tail _ (List.Mem.head _)))) ?_
  refine z_aload_n X (x := q1) (show cdA 350 1008 = some (.aload_n 0, 1, 0, 0, 0) from rfl) (List.Mem.tail _ (List.Mem.head _)) ?_
  refine z_load X (x := i) (show cdA 350 1009 = some (.iload 4, 2, 0, 0, 0) from rfl) (List.Mem.tail _ (List.Mem.tail _ (List.Mem.tail _ (List.Mem.tail _ (List.Mem.tail _ (List.Mem.head _)))))) ?_
  refine z_const X (show cdA 350 1011 = some (.iconst 1, 1, 0, 0, 0) from rfl) ?_
  refine z_add X (show cdA 350 1012 = some (.iadd, 1, 0, 0, 0) from rfl) ?_
  refine z_sld X S hL (show cdA 350 1013 = some (.iaload, 1, 0, 0, 0) from rfl) (show 0 ≤ (i + 1) ∧ (i + 1) < (L : Int) by omega) ?_
  have sr8 : rng (sc xs (i + 1)) := sc_rng
  refine z_callV X 179 (rm := rmN 257) (As := [.int (Int32.ofInt (sc xs (i + 1)))]) (st := []) (show cdA 350 1014 = some (.invokevirtual 215, 3, 257, 0, 0) from rfl) rfl (by decide) rfl (by rw [E.1, E.2.1, E.2.2.1]; exact k_grow G Is6 JRLx_s6 (by first | exact ⟨sr8.1, sr8.2⟩ | omega)) ⟨by rw [E.2.2.2]; exact (show 42 + 1 ≤ 2048 by omega), by rw [E.2.2.2]; exact (show 8 + (3 + 11) + 1687 ≤ 84000 by omega), by rw [E.2.2.2]; exact (show (ce + 1) + 0 ≤ 601024 by omega), by rw [E.2.2.2]; exact (show (sl + 6) + 0 ≤ 7293034 by omega)⟩ (Nat.le_of_ble_eq_true rfl) (fun vv s9 hq => ?_) (fun ee s9 hq => ?_)
  rotate_left
  · obtain ⟨Is9, Fs9, JRLx_s9, e10, hv, hrs9, hps9⟩ := hq; cases hv
  obtain ⟨Is9, Fs9, JRLx_s9, e10, hv, hrs9, hps9⟩ := hq
  cases hv
  have Gs9 := fm_ts Gs6 Fs9 (by decide) (by decide)
  have JRLx_s9 : RLx s9 := RLx_fm Fs9 (by decide) JRLx_s6
  have ws9_70 : iI s9 70 = iI s6 70 := fm_i Fs9 (by decide)
  have ws9_107 : iI s9 107 = iI s6 107 := fm_i Fs9 (by decide)
  have ws9_12 : iI s9 12 = iI s6 12 := fm_i Fs9 (by decide)
  have ws9_89 : iI s9 89 = iI s6 89 := fm_i Fs9 (by decide)
  have wos9 : iO s9 = iO s6 := fm_o Fs9 (by decide)
  show WS k 1017 [(5, .int (Int32.ofInt e7)), (0, .ref q1), (1, .ref (A 0)), (2, .ref (A 179)), (3, .ref (A 517)), (4, .int (Int32.ofInt i))] [.int (Int32.ofInt e10)] (Wd A dT s9) (ce + 1) (sl + 6)
  refine z_store X (lv' := [(6, .int (Int32.ofInt e10)), (5, .int (Int32.ofInt e7)), (0, .ref q1), (1, .ref (A 0)), (2, .ref (A 179)), (3, .ref (A 517)), (4, .int (Int32.ofInt i))]) (show cdA 350 1017 = some (.istore 6, 2, 0, 0, 0) from rfl) (by decide) (fun _ h => h) ?_
  refine z_goto X (t := 1894) (show cdA 350 1019 = some (.goto 875, 3, 0, 0, 0) from rfl) (by decide) ?_
  refine w_widen (ce' := ce + 29) (sl' := sl + 222) (by omega) (by omega) ?_
  exact WS_lv (lv := [(0, .ref q1), (1, .ref (A 0)), (2, .ref (A 179)), (3, .ref (A 517)), (4, .int (Int32.ofInt i))]) (List.forall_mem_cons.mpr ⟨(List.Mem.tail _ (List.Mem.tail _ (List.Mem.head _))), (List.forall_mem_cons.mpr ⟨(List.Mem.tail _ (List.Mem.tail _ (List.Mem.tail _ (List.Mem.head _)))), (List.forall_mem_cons.mpr ⟨(List.Mem.tail _ (List.Mem.tail _ (List.Mem.tail _ (List.Mem.tail _ (List.Mem.head _))))), (List.forall_mem_cons.mpr ⟨(List.Mem.tail _ (List.Mem.tail _ (List.Mem.tail _ (List.Mem.tail _ (List.Mem.tail _ (List.Mem.head _)))))), (List.forall_mem_cons.mpr ⟨(List.Mem.tail _ (List.Mem.tail _ (List.Mem.tail _ (List.Mem.tail _ (List.Mem.tail _ (List.Mem.tail _ (List.Mem.head _))))))), (fun q h => absurd h List.not_mem_nil)⟩)⟩)⟩)⟩)⟩) (hk A _ Is9 JRLx_s9 (by omega) (by omega) (by omega))
theorem lc_22 (G : GX l s0 D tys a0 dT) (GR : RS0 s0) (SF : SF0 s0) (GT : TXs0 s0) {k : kx_T} (X : AX k 350 dT) (E : kL k = l ∧ kS0 k = s0 ∧ kD k = D ∧ kR k = room_1) {q1 L : Nat} {xs : Nat → Int32} (S : SX k q1 L xs) (hL : L ≤ 3072) (I : Bd s) (jR : RLx s) (p1 : iI s 89 = 1) (p2 : iI s 12 ≤ 8) (p3 : iI s 70 = iI s 107) {i : Int} (hi : 0 ≤ i ∧ i + 6 ≤ (L : Int)) {ce sl : Nat} (hce : ce + 29 ≤ 601024) (hsl : sl + 222 ≤ 7293034) (hk : ∀ (A : Nat → Nat) (t : PS), Bd t → RLx t → iI t 89 = 1 → iI t 12 ≤ 8 → iI t 70 = iI t 107 → WS k 1894 [(0, .ref q1), (1, .ref (A 0)), (2, .ref (A 179)), (3, .ref (A 517)), (4, .int (Int32.ofInt i))] [] (Wd A dT t) (ce + 29) (sl + 222)) : WS k 1022 [(0, .ref q1), (1, .ref (A 0)), (2, .ref (A 179)), (3, .ref (A 517)), (4, .int (Int32.ofInt i))] [] (Wd A dT s) ce sl := by
  have F : Fm [28, 73, 97] [39, 1460, 234] s s := fm_rf _ _ s
  have b1 : (0 : Int) ≤ iI s 70 ∧ iI s 70 ≤ 40 := I.1 70
  have b2 : (0 : Int) ≤ iI s 107 ∧ iI s 107 ≤ 40 := I.1 107
  have b3 : (0 : Int) ≤ iI s 12 ∧ iI s 12 ≤ 9 := I.1 12
  have b4 : (1 : Int) ≤ iI s 89 ∧ iI s 89 ≤ 8 := I.1 89
  refine z_aload_n X (x := A 0) (show cdA 350 1022 = some (.aload_n 1, 1, 0, 0, 0) from rfl) (List.Mem.tail _ (List.Mem.head _)) ?_
  refine z_aload_n X (x := q1) (show cdA 350 1023 = some (.aload_n 0, 1, 0, 0, 0) from rfl) (List.Mem.head _) ?_
  refine z_load X (x := i) (show cdA 350 1024 = some (.iload 4, 2, 0, 0, 0) from rfl) (List.Mem.tail _ (List.Mem.tail _ (List.Mem.tail _ (List.Mem.tail _ (List.Mem.head _))))) ?_
  refine z_const X (show cdA 350 1026 = some (.iconst 1, 1, 0, 0, 0) from rfl) ?_
  refine z_add X (show cdA 350 1027 = some (.iadd, 1, 0, 0, 0) from rfl) ?_
  refine z_sld X S hL (show cdA 350 1028 = some (.iaload, 1, 0, 0, 0) from rfl) (show 0 ≤ (i + 1) ∧ (i + 1) < (L : Int) by omega) ?_
  have sr5 : rng (sc xs (i + 1)) := sc_rng
  refine z_aload_n X (x := A 517) (show cdA 350 1029 = some (.aload_n 3, 1, 0, 0, 0) from rfl) (List.Mem.tail _ (List.Mem.tail _ (List.Mem.tail _ (List.Mem.head _)))) ?_
  refine z_callL X (rm := rmN 332) (As := [.ref (A 0), .int (Int32.ofInt (sc xs (i + 1))), .ref (A 517)]) (st := []) (show cdA 350 1030 = some (.invokestatic 216, 3, 332, 6, 0) from rfl) (by decide) rfl (by rw [E.1, E.2.1, E.2.2.1]; exact lw_region G I (by omega)) ⟨by rw [E.2.2.2]; exact (show 8 + 1 ≤ 2048 by omega), by rw [E.2.2.2]; exact (show 8 + (4 + 11) + 143 ≤ 84000 by omega), by rw [E.2.2.2]; exact (show ce + 1 ≤ 601024 by omega), by rw [E.2.2.2]; exact (show sl + 6 ≤ 7293034 by omega)⟩ (Nat.le_of_ble_eq_true rfl) (fun vv A s6 hA2 hq => ?_) (fun ee A s6 hA2 hq => ?_)
  rotate_left
  · obtain ⟨Is6, Fs6, e7, hv, hrs6, hps6⟩ := hq; cases hv
  obtain ⟨Is6, Fs6, e7, hv, hrs6, hps6⟩ := hq
  cases hv
  rw [← hA2 0 (by decide)]
  rw [← hA2 179 (by decide)]
  rw [← hA2 517 (by decide)]
  have Gs6 := fm_ts F Fs6 (by decide) (by decide)
  have JRLx_s6 : RLx s6 := RLx_fm Fs6 (by decide) jR
  have ws6_70 : iI s6 70 = iI s 70 := fm_i Fs6 (by decide)
  have ws6_107 : iI s6 107 = iI s 107 := fm_i Fs6 (by decide)
  have ws6_12 : iI s6 12 = iI s 12 := fm_i Fs6 (by decide)
  have ws6_89 : iI s6 89 = iI s 89 := fm_i Fs6 (by decide)
  show WS k 1033 [(0, .ref q1), (1, .ref (A 0)), (2, .ref (A 179)), (3, .ref (A 517)), (4, .int (Int32.ofInt i))] [.int (Int32.ofInt e7)] (Wd A dT s6) (ce + 1) (sl + 6)
  refine z_store X (lv' := [(5, .int (Int32.ofInt e7)), (0, .ref q1), (1, .ref (A 0)), (2, .ref (A 179)), (3, .ref (A 517)), (4, .int (Int32.ofInt i))]) (show cdA 350 1033 = some (.istore 5, 2, 0, 0, 0) from rfl) (by decide) (fun _ h => h) ?_
  refine z_aload_n X (x := A 179) (show cdA 350 1035 = some (.aload_n 2, 1, 0, 0, 0) from rfl) (List.Mem.tail _ (List.Mem.tail _ (List.Mem.tail _ (List.Mem.head _)))) ?_
  refine z_aload_n X (x := q1) (show cdA 350 1036 = some (.aload_n 0, 1, 0, 0, 0) from rfl) (List.Mem.tail _ (List.Mem.head _)) ?_
  refine z_load X (x := i) (show cdA 350 1037 = some (.iload 4, 2, 0, 0, 0) from rfl) (List.Mem.tail _ (List.Mem.tail _ (List.Mem.tail _ (List.Mem.tail _ (List.Mem.tail _ (List.Mem.head _)))))) ?_
  refine z_const X (show cdA 350 1039 = some (.iconst 1, 1, 0, 0, 0) from rfl) ?_
  refine z_add X (show cdA 350 1040 = some (.iadd, 1, 0, 0, 0) from rfl) ?_
  refine z_sld X S hL (show cdA 350 1041 = some (.iaload, 1, 0, 0, 0) from rfl) (show 0 ≤ (i + 1) ∧ (i + 1) < (L : Int) by omega) ?_
  have sr8 : rng (sc xs (i + 1)) := sc_rng
  refine z_callV X 179 (rm := rmN 258) (As := [.int (Int32.ofInt (sc xs (i + 1)))]) (st := []) (show cdA 350 1042 = some (.invokevirtual 218, 3, 258, 0, 0) from rfl) rfl (by decide) rfl (by rw [E.1, E.2.1, E.2.2.1]; exact k_region G Is6 (by first | exact ⟨sr8.1, sr8.2⟩ | omega)) ⟨by rw [E.2.2.2]; exact (show 7 + 1 ≤ 2048 by omega), by rw [E.2.2.2]; exact (show 8 + (3 + 11) + 122 ≤ 84000 by omega), by rw [E.2.2.2]; exact (show (ce + 1) + 0 ≤ 601024 by omega), by rw [E.2.2.2]; exact (show (sl + 6) + 0 ≤ 7293034 by omega)⟩ (Nat.le_of_ble_eq_true rfl) (fun vv s9 hq => ?_) (fun ee s9 hq => ?_)
  rotate_left
  · obtain ⟨Is9, Fs9, e10, hv, hrs9, hps9⟩ := hq; cases hv
  obtain ⟨Is9, Fs9, e10, hv, hrs9, hps9⟩ := hq
  cases hv
  have Gs9 := fm_ts Gs6 Fs9 (by decide) (by decide)
  have JRLx_s9 : RLx s9 := RLx_fm Fs9 (by decide) JRLx_s6
  have ws9_70 : iI s9 70 = iI s6 70 := fm_i Fs9 (by decide)
  have ws9_107 : iI s9 107 = iI s6 107 := fm_i Fs9 (by decide)
  have ws9_12 : iI s9 12 = iI s6 12 := fm_i Fs9 (by decide)
  have ws9_89 : iI s9 89 = iI s6 89 := fm_i Fs9 (by decide)
  have wos9 : iO s9 = iO s6 := fm_o Fs9 (by decide)
  show WS k 1045 [(5, .int (Int32.ofInt e7)), (0, .ref q1), (1, .ref (A 0)), (2, .ref (A 179)), (3, .ref (A 517)), (4, .int (Int32.ofInt i))] [.int (Int32.ofInt e10)] (Wd A dT s9) (ce + 1) (sl + 6)
  refine z_store X (lv' := [(6, .int (Int32.ofInt e10)), (5, .int (Int32.ofInt e7)), (0, .ref q1), (1, .ref (A 0)), (2, .ref (A 179)), (3, .ref (A 517)), (4, .int (Int32.ofInt i))]) (show cdA 350 1045 = some (.istore 6, 2, 0, 0, 0) from rfl) (by decide) (fun _ h => h) ?_
  refine z_goto X (t := 1894) (show cdA 350 1047 = some (.goto 847, 3, 0, 0, 0) from rfl) (by decide) ?_
  refine w_widen (ce' := ce + 29) (sl' := sl + 222) (by omega) (by omega) ?_
  exact WS_lv (lv := [(0, .ref q1), (1, .ref (A 0)), (2, .ref (A 179)), (3, .ref (A 517)), (4, .int (Int32.ofInt i))]) (List.forall_mem_cons.mpr ⟨(List.Mem.tail _ (List.Mem.tail _ (List.Mem.head _))), (List.forall_mem_cons.mpr ⟨(List.Mem.tail _ (List.Mem.tail _ (List.Mem.tail _ (List.Mem.head _)))), (List.forall_mem_cons.mpr ⟨(List.Mem.tail _ (List.Mem.tail _ (List.Mem.tail _ (List.Mem.tail _ (List.Mem.head _))))), (List.forall_mem_cons.mpr ⟨(List.Mem.tail _ (List.Mem.tail _ (List.Mem.tail _ (List.Mem.tail _ (List.Mem.tail _ (List.Mem.head _)))))), (List.forall_mem_cons.mpr ⟨(List.Mem.tail _ (List.Mem.tail _ (List.Mem.tail _ (List.Mem.tail _ (List.Mem.tail _ (List.Mem.tail _ (List.Mem.head _))))))), (fun q h => absurd h List.not_mem_nil)⟩)⟩)⟩)⟩)⟩) (hk A _ Is9 JRLx_s9 (by omega) (by omega) (by omega))
theorem lc_23 (G : GX l s0 D tys a0 dT) (GR : RS0 s0) (SF : SF0 s0) (GT : TXs0 s0) {k : kx_T} (X : AX k 350 dT) (E : kL k = l ∧ kS0 k = s0 ∧ kD k = D ∧ kR k = room_1) {q1 L : Nat} {xs : Nat → Int32} (S : SX k q1 L xs) (hL : L ≤ 3072) (I : Bd s) (jR : RLx s) (p1 : iI s 89 = 1) (p2 : iI s 12 ≤ 8) (p3 : iI s 70 = iI s 107) {i : Int} (hi : 0 ≤ i ∧ i + 6 ≤ (L : Int)) {ce sl : Nat} (hce : ce + 29 ≤ 601024) (hsl : sl + 222 ≤ 7293034) (hk : ∀ (A : Nat → Nat) (t : PS), Bd t → RLx t → iI t 89 = 1 → iI t 12 ≤ 8 → iI t 70 = iI t 107 → WS k 1894 [(0, .ref q1), (1, .ref (A 0)), (2, .ref (A 179)), (3, .ref (A 517)), (4, .int (Int32.ofInt i))] [] (Wd A dT t) (ce + 29) (sl + 222)) : WS k 1050 [(0, .ref q1), (1, .ref (A 0)), (2, .ref (A 179)), (3, .ref (A 517)), (4, .int (Int32.ofInt i))] [] (Wd A dT s) ce sl := by
  have F : Fm [22, 23, 24, 31, 29, 30, 73, 77, 75, 78, 79, 80, 81, 100, 101] [33, 26, 27, 28, 29, 30, 31, 32, 20, 40, 41, 42, 45, 43, 44, 1460, 202, 204, 205, 206, 207, 208, 209, 210, 211, 212, 213, 214, 215, 216, 217, 218, 219, 220, 221, 222, 223, 224, 225, 226, 227, 203, 161, 230, 231, 232, 240, 238, 239, 236, 235] s s := fm_rf _ _ s
  have b1 : (0 : Int) ≤ iI s 70 ∧ iI s 70 ≤ 40 := I.1 70
  have b2 : (0 : Int) ≤ iI s 107 ∧ iI s 107 ≤ 40 := I.1 107
  have b3 : (0 : Int) ≤ iI s 12 ∧ iI s 12 ≤ 9 := I.1 12
  have b4 : (1 : Int) ≤ iI s 89 ∧ iI s 89 ≤ 8 := I.1 89
  refine z_aload_n X (x := A 0) (show cdA 350 1050 = some (.aload_n 1, 1, 0, 0, 0) from rfl) (List.Mem.tail _ (List.Mem.head _)) ?_
  refine z_aload_n X (x := q1) (show cdA 350 1051 = some (.aload_n 0, 1, 0, 0, 0) from rfl) (List.Mem.head _) ?_
  refine z_load X (x := i) (show cdA 350 1052 = some (.iload 4, 2, 0, 0, 0) from rfl) (List.Mem.tail _ (List.Mem.tail _ (List.Mem.tail _ (List.Mem.tail _ (List.Mem.head _))))) ?_
  refine z_const X (show cdA 350 1054 = some (.iconst 1, 1, 0, 0, 0) from rfl) ?_
  refine z_add X (show cdA 350 1055 = some (.iadd, 1, 0, 0, 0) from rfl) ?_
  refine z_sld X S hL (show cdA 350 1056 = some (.iaload, 1, 0, 0, 0) from rfl) (show 0 ≤ (i + 1) ∧ (i + 1) < (L : Int) by omega) ?_
  have sr5 : rng (sc xs (i + 1)) := sc_rng
  refine z_aload_n X (x := q1) (show cdA 350 1057 = some (.aload_n 0, 1, 0, 0, 0) from rfl) (List.Mem.head _) ?_
  refine z_load X (x := i) (show cdA 350 1058 = some (.iload 4, 2, 0, 0, 0) from rfl) (List.Mem.tail _ (List.Mem.tail _ (List.Mem.tail _ (List.Mem.tail _ (List.Mem.head _))))) ?_
  refine z_const X (show cdA 350 1060 = some (.iconst 2, 1, 0, 0, 0) from rfl) ?_
  refine z_add X (show cdA 350 1061 = some (.iadd, 1, 0, 0, 0) from rfl) ?_
  refine z_sld X S hL (show cdA 350 1062 = some (.iaload, 1, 0, 0, 0) from rfl) (show 0 ≤ (i + 2) ∧ (i + 2) < (L : Int) by omega) ?_
  have sr6 : rng (sc xs (i + 2)) := sc_rng
  refine z_aload_n X (x := A 517) (show cdA 350 1063 = some (.aload_n 3, 1, 0, 0, 0) from rfl) (List.Mem.tail _ (List.Mem.tail _ (List.Mem.tail _ (List.Mem.head _)))) ?_
  refine z_callL X (rm := rmN 333) (As := [.ref (A 0), .int (Int32.ofInt (sc xs (i + 1))), .int (Int32.ofInt (sc xs (i + 2))), .ref (A 517)]) (st := []) (show cdA 350 1064 = some (.invokestatic 219, 3, 333, 6, 0) from rfl) (by decide) rfl (by rw [E.1, E.2.1, E.2.2.1]; exact lw_parted G I (by omega) (by omega)) ⟨by rw [E.2.2.2]; exact (show 35 + 1 ≤ 2048 by omega), by rw [E.2.2.2]; exact (show 8 + (5 + 11) + 1468 ≤ 84000 by omega), by rw [E.2.2.2]; exact (show ce + 2 ≤ 601024 by omega), by rw [E.2.2.2]; exact (show sl + 12 ≤ 7293034 by omega)⟩ (Nat.le_of_ble_eq_true rfl) (fun vv A s7 hA2 hq => ?_) (fun ee A s7 hA2 hq => ?_)
  rotate_left
  · obtain ⟨Is7, Fs7, e8, hv, hrs7, hps7⟩ := hq; cases hv
  obtain ⟨Is7, Fs7, e8, hv, hrs7, hps7⟩ := hq
  cases hv
  rw [← hA2 0 (by decide)]
  rw [← hA2 179 (by decide)]
  rw [← hA2 517 (by decide)]
  have Gs7 := fm_ts F Fs7 (by decide) (by decide)
  have JRLx_s7 : RLx s7 := RLx_fm Fs7 (by decide) jR
  have ws7_70 : iI s7 70 = iI s 70 := fm_i Fs7 (by decide)
  have ws7_107 : iI s7 107 = iI s 107 := fm_i Fs7 (by decide)
  have ws7_12 : iI s7 12 = iI s 12 := fm_i Fs7 (by decide)
  have ws7_89 : iI s7 89 = iI s 89 := fm_i Fs7 (by decide)
  show WS k 1067 [(0, .ref q1), (1, .ref (A 0)), (2, .ref (A 179)), (3, .ref (A 517)), (4, .int (Int32.ofInt i))] [.int (Int32.ofInt e8)] (Wd A dT s7) (ce + 2) (sl + 12)
  refine z_store X (lv' := [(5, .int (Int32.ofInt e8)), (0, .ref q1), (1, .ref (A 0)), (2, .ref (A 179)), (3, .ref (A 517)), (4, .int (Int32.ofInt i))]) (show cdA 350 1067 = some (.istore 5, 2, 0, 0, 0) from rfl) (by decide) (fun _ h => h) ?_
  refine z_aload_n X (x := A 179) (show cdA 350 1069 = some (.aload_n 2, 1, 0, 0, 0) from rfl) (List.Mem.tail _ (List.Mem.tail _ (List.Mem.tail _ (List.Mem.head _)))) ?_
  refine z_aload_n X (x := q1) (show cdA 350 1070 = some (.aload_n 0, 1, 0, 0, 0) from rfl) (List.Mem.tail _ (List.Mem.head _)) ?_
  refine z_load X (x := i) (show cdA 350 1071 = some (.iload 4, 2, 0, 0, 0) from rfl) (List.Mem.tail _ (List.Mem.tail _ (List.Mem.tail _ (List.Mem.tail _ (List.Mem.tail _ (List.Mem.head _)))))) ?_
  refine z_const X (show cdA 350 1073 = some (.iconst 1, 1, 0, 0, 0) from rfl) ?_
  refine z_add X (show cdA 350 1074 = some (.iadd, 1, 0, 0, 0) from rfl) ?_
  refine z_sld X S hL (show cdA 350 1075 = some (.iaload, 1, 0, 0, 0) from rfl) (show 0 ≤ (i + 1) ∧ (i + 1) < (L : Int) by omega) ?_
  have sr9 : rng (sc xs (i + 1)) := sc_rng
  refine z_aload_n X (x := q1) (show cdA 350 1076 = some (.aload_n 0, 1, 0, 0, 0) from rfl) (List.Mem.tail _ (List.Mem.head _)) ?_
  refine z_load X (x := i) (show cdA 350 1077 = some (.iload 4, 2, 0, 0, 0) from rfl) (List.Mem.tail _ (List.Mem.tail _ (List.Mem.tail _ (List.Mem.tail _ (List.Mem.tail _ (List.Mem.head _)))))) ?_
  refine z_const X (show cdA 350 1079 = some (.iconst 2, 1, 0, 0, 0) from rfl) ?_
  refine z_add X (show cdA 350 1080 = some (.iadd, 1, 0, 0, 0) from rfl) ?_
  refine z_sld X S hL (show cdA 350 1081 = some (.iaload, 1, 0, 0, 0) from rfl) (show 0 ≤ (i + 2) ∧ (i + 2) < (L : Int) by omega) ?_
  have sr10 : rng (sc xs (i + 2)) := sc_rng
  refine z_callV X 179 (rm := rmN 263) (As := [.int (Int32.ofInt (sc xs (i + 1))), .int (Int32.ofInt (sc xs (i + 2)))]) (st := []) (show cdA 350 1082 = some (.invokevirtual 221, 3, 263, 0, 0) from rfl) rfl (by decide) rfl (by rw [E.1, E.2.1, E.2.2.1]; exact k_parted G Is7 JRLx_s7 (by first | exact ⟨sr9.1, sr9.2⟩ | omega) (by first | exact ⟨sr10.1, sr10.2⟩ | omega)) ⟨by rw [E.2.2.2]; exact (show 38 + 1 ≤ 2048 by omega), by rw [E.2.2.2]; exact (show 8 + (3 + 11) + 1601 ≤ 84000 by omega), by rw [E.2.2.2]; exact (show (ce + 2) + 0 ≤ 601024 by omega), by rw [E.2.2.2]; exact (show (sl + 12) + 0 ≤ 7293034 by omega)⟩ (Nat.le_of_ble_eq_true rfl) (fun vv s11 hq => ?_) (fun ee s11 hq => ?_)
  rotate_left
  · obtain ⟨Is11, Fs11, JRLx_s11, e12, hv, hrs11, hps11⟩ := hq; cases hv
  obtain ⟨Is11, Fs11, JRLx_s11, e12, hv, hrs11, hps11⟩ := hq
  cases hv
  have Gs11 := fm_ts Gs7 Fs11 (by decide) (by decide)
  have JRLx_s11 : RLx s11 := RLx_fm Fs11 (by decide) JRLx_s7
  have ws11_70 : iI s11 70 = iI s7 70 := fm_i Fs11 (by decide)
  have ws11_107 : iI s11 107 = iI s7 107 := fm_i Fs11 (by decide)
  have ws11_12 : iI s11 12 = iI s7 12 := fm_i Fs11 (by decide)
  have ws11_89 : iI s11 89 = iI s7 89 := fm_i Fs11 (by decide)
  have wos11 : iO s11 = iO s7 := fm_o Fs11 (by decide)
  show WS k 1085 [(5, .int (Int32.ofInt e8)), (0, .ref q1), (1, .ref (A 0)), (2, .ref (A 179)), (3, .ref (A 517)), (4, .int (Int32.ofInt i))] [.int (Int32.ofInt e12)] (Wd A dT s11) (ce + 2) (sl + 12)
  refine z_store X (lv' := [(6, .int (Int32.ofInt e12)), (5, .int (Int32.ofInt e8)), (0, .ref q1), (1, .ref (A 0)), (2, .ref (A 179)), (3, .ref (A 517)), (4, .int (Int32.ofInt i))]) (show cdA 350 1085 = some (.istore 6, 2, 0, 0, 0) from rfl) (by decide) (fun _ h => h) ?_
  refine z_goto X (t := 1894) (show cdA 350 1087 = some (.goto 807, 3, 0, 0, 0) from rfl) (by decide) ?_
  refine w_widen (ce' := ce + 29) (sl' := sl + 222) (by omega) (by omega) ?_
  exact WS_lv (lv := [(0, .ref q1), (1, .ref (A 0)), (2, .ref (A 179)), (3, .ref (A 517)), (4, .int (Int32.ofInt i))]) (List.forall_mem_cons.mpr ⟨(List.Mem.tail _ (List.Mem.tail _ (List.Mem.head _))), (List.forall_mem_cons.mpr ⟨(List.Mem.tail _ (List.Mem.tail _ (List.Mem.tail _ (List.Mem.head _)))), (List.forall_mem_cons.mpr ⟨(List.Mem.tail _ (List.Mem.tail _ (List.Mem.tail _ (List.Mem.tail _ (List.Mem.head _))))), (List.forall_mem_cons.mpr ⟨(List.Mem.tail _ (List.Mem.tail _ (List.Mem.tail _ (List.Mem.tail _ (List.Mem.tail _ (List.Mem.head _)))))), (List.forall_mem_cons.mpr ⟨(List.Mem.tail _ (List.Mem.tail _ (List.Mem.tail _ (List.Mem.tail _ (List.Mem.tail _ (List.Mem.tail _ (List.Mem.head _))))))), (fun q h => absurd h List.not_mem_nil)⟩)⟩)⟩)⟩)⟩) (hk A _ Is11 JRLx_s11 (by omega) (by omega) (by omega))
theorem lc_24 (G : GX l s0 D tys a0 dT) (GR : RS0 s0) (SF : SF0 s0) (GT : TXs0 s0) {k : kx_T} (X : AX k 350 dT) (E : kL k = l ∧ kS0 k = s0 ∧ kD k = D ∧ kR k = room_1) {q1 L : Nat} {xs : Nat → Int32} (S : SX k q1 L xs) (hL : L ≤ 3072) (I : Bd s) (jR : RLx s) (p1 : iI s 89 = 1) (p2 : iI s 12 ≤ 8) (p3 : iI s 70 = iI s 107) {i : Int} (hi : 0 ≤ i ∧ i + 6 ≤ (L : Int)) {ce sl : Nat} (hce : ce + 29 ≤ 601024) (hsl : sl + 222 ≤ 7293034) (hk : ∀ (A : Nat → Nat) (t : PS), Bd t → RLx t → iI t 89 = 1 → iI t 12 ≤ 8 → iI t 70 = iI t 107 → WS k 1894 [(0, .ref q1), (1, .ref (A 0)), (2, .ref (A 179)), (3, .ref (A 517)), (4, .int (Int32.ofInt i))] [] (Wd A dT t) (ce + 29) (sl + 222)) : WS k 1090 [(0, .ref q1), (1, .ref (A 0)), (2, .ref (A 179)), (3, .ref (A 517)), (4, .int (Int32.ofInt i))] [] (Wd A dT s) ce sl := by
  have F : Fm [28, 73, 97] [] s s := fm_rf _ _ s
  have b1 : (0 : Int) ≤ iI s 70 ∧ iI s 70 ≤ 40 := I.1 70
  have b2 : (0 : Int) ≤ iI s 107 ∧ iI s 107 ≤ 40 := I.1 107
  have b3 : (0 : Int) ≤ iI s 12 ∧ iI s 12 ≤ 9 := I.1 12
  have b4 : (1 : Int) ≤ iI s 89 ∧ iI s 89 ≤ 8 := I.1 89
  refine z_aload_n X (x := A 0) (show cdA 350 1090 = some (.aload_n 1, 1, 0, 0, 0) from rfl) (List.Mem.tail _ (List.Mem.head _)) ?_
  refine z_callV X 0 (rm := rmN 159) (As := []) (st := []) (show cdA 350 1091 = some (.invokevirtual 222, 3, 159, 0, 0) from rfl) rfl (by decide) rfl (by rw [E.1, E.2.1, E.2.2.1]; exact cs_clear G I ) ⟨by rw [E.2.2.2]; exact (show 6 + 1 ≤ 2048 by omega), by rw [E.2.2.2]; exact (show 8 + (2 + 11) + 100 ≤ 84000 by omega), by rw [E.2.2.2]; exact (show ce + 0 ≤ 601024 by omega), by rw [E.2.2.2]; exact (show sl + 0 ≤ 7293034 by omega)⟩ (Nat.le_of_ble_eq_true rfl) (fun vv s5 hq => ?_) (fun ee s5 hq => ?_)
  rotate_left
  · obtain ⟨Is5, Fs5, e6, hv, hrs5, hps5⟩ := hq; cases hv
  obtain ⟨Is5, Fs5, e6, hv, hrs5, hps5⟩ := hq
  cases hv
  have Gs5 := fm_ts F Fs5 (by decide) (by decide)
  have JRLx_s5 : RLx s5 := RLx_fm Fs5 (by decide) jR
  have ws5_70 : iI s5 70 = iI s 70 := fm_i Fs5 (by decide)
  have ws5_107 : iI s5 107 = iI s 107 := fm_i Fs5 (by decide)
  have ws5_12 : iI s5 12 = iI s 12 := fm_i Fs5 (by decide)
  have ws5_89 : iI s5 89 = iI s 89 := fm_i Fs5 (by decide)
  have wos5 : iO s5 = iO s := fm_o Fs5 (by decide)
  show WS k 1094 [(0, .ref q1), (1, .ref (A 0)), (2, .ref (A 179)), (3, .ref (A 517)), (4, .int (Int32.ofInt i))] [.int (Int32.ofInt e6)] (Wd A dT s5) ce sl
  refine w_pop X.1 (ax_d X (show cdA 350 1094 = some (.pop, 1, 0, 0, 0) from rfl)) rfl ?_
  refine z_aload_n X (x := A 179) (show cdA 350 1095 = some (.aload_n 2, 1, 0, 0, 0) from rfl) (List.Mem.tail _ (List.Mem.tail _ (List.Mem.head _))) ?_
  refine z_callV X 179 (rm := rmN 259) (As := []) (st := []) (show cdA 350 1096 = some (.invokevirtual 225, 3, 259, 0, 0) from rfl) rfl (by decide) rfl (by rw [E.1, E.2.1, E.2.2.1]; exact k_clear G Is5 ) ⟨by rw [E.2.2.2]; exact (show 6 + 1 ≤ 2048 by omega), by rw [E.2.2.2]; exact (show 8 + (2 + 11) + 100 ≤ 84000 by omega), by rw [E.2.2.2]; exact (show ce + 0 ≤ 601024 by omega), by rw [E.2.2.2]; exact (show sl + 0 ≤ 7293034 by omega)⟩ (Nat.le_of_ble_eq_true rfl) (fun vv s7 hq => ?_) (fun ee s7 hq => ?_)
  rotate_left
  · obtain ⟨Is7, Fs7, e8, hv, hrs7, hps7⟩ := hq; cases hv
  obtain ⟨Is7, Fs7, e8, hv, hrs7, hps7⟩ := hq
  cases hv
  have Gs7 := fm_ts Gs5 Fs7 (by decide) (by decide)
  have JRLx_s7 : RLx s7 := RLx_fm Fs7 (by decide) JRLx_s5
  have ws7_70 : iI s7 70 = iI s5 70 := fm_i Fs7 (by decide)
  have ws7_107 : iI s7 107 = iI s5 107 := fm_i Fs7 (by decide)
  have ws7_12 : iI s7 12 = iI s5 12 := fm_i Fs7 (by decide)
  have ws7_89 : iI s7 89 = iI s5 89 := fm_i Fs7 (by decide)
  have wos7 : iO s7 = iO s5 := fm_o Fs7 (by decide)
  show WS k 1099 [(0, .ref q1), (1, .ref (A 0)), (2, .ref (A 179)), (3, .ref (A 517)), (4, .int (Int32.ofInt i))] [.int (Int32.ofInt e8)] (Wd A dT s7) ce sl
  refine w_pop X.1 (ax_d X (show cdA 350 1099 = some (.pop, 1, 0, 0, 0) from rfl)) rfl ?_
  refine z_goto X (t := 1894) (show cdA 350 1100 = some (.goto 794, 3, 0, 0, 0) from rfl) (by decide) ?_
  refine w_widen (ce' := ce + 29) (sl' := sl + 222) (by omega) (by omega) ?_
  exact WS_lv (lv := [(0, .ref q1), (1, .ref (A 0)), (2, .ref (A 179)), (3, .ref (A 517)), (4, .int (Int32.ofInt i))]) (List.forall_mem_cons.mpr ⟨(List.Mem.head _), (List.forall_mem_cons.mpr ⟨(List.Mem.tail _ (List.Mem.head _)), (List.forall_mem_cons.mpr ⟨(List.Mem.tail _ (List.Mem.tail _ (List.Mem.head _))), (List.forall_mem_cons.mpr ⟨(List.Mem.tail _ (List.Mem.tail _ (List.Mem.tail _ (List.Mem.head _)))), (List.forall_mem_cons.mpr ⟨(List.Mem.tail _ (List.Mem.tail _ (List.Mem.tail _ (List.Mem.tail _ (List.Mem.head _))))), (fun q h => absurd h List.not_mem_nil)⟩)⟩)⟩)⟩)⟩) (hk A _ Is7 JRLx_s7 (by omega) (by omega) (by omega))
theorem lc_25 (G : GX l s0 D tys a0 dT) (GR : RS0 s0) (SF : SF0 s0) (GT : TXs0 s0) {k : kx_T} (X : AX k 350 dT) (E : kL k = l ∧ kS0 k = s0 ∧ kD k = D ∧ kR k = room_1) {q1 L : Nat} {xs : Nat → Int32} (S : SX k q1 L xs) (hL : L ≤ 3072) (I : Bd s) (jR : RLx s) (p1 : iI s 89 = 1) (p2 : iI s 12 ≤ 8) (p3 : iI s 70 = iI s 107) {i : Int} (hi : 0 ≤ i ∧ i + 6 ≤ (L : Int)) {ce sl : Nat} (hce : ce + 29 ≤ 601024) (hsl : sl + 222 ≤ 7293034) (hk : ∀ (A : Nat → Nat) (t : PS), Bd t → RLx t → iI t 89 = 1 → iI t 12 ≤ 8 → iI t 70 = iI t 107 → WS k 1894 [(0, .ref q1), (1, .ref (A 0)), (2, .ref (A 179)), (3, .ref (A 517)), (4, .int (Int32.ofInt i))] [] (Wd A dT t) (ce + 29) (sl + 222)) : WS k 1103 [(0, .ref q1), (1, .ref (A 0)), (2, .ref (A 179)), (3, .ref (A 517)), (4, .int (Int32.ofInt i))] [] (Wd A dT s) ce sl := by
  have F : Fm [32, 73, 99] [46, 1460, 237] s s := fm_rf _ _ s
  have b1 : (0 : Int) ≤ iI s 70 ∧ iI s 70 ≤ 40 := I.1 70
  have b2 : (0 : Int) ≤ iI s 107 ∧ iI s 107 ≤ 40 := I.1 107
  have b3 : (0 : Int) ≤ iI s 12 ∧ iI s 12 ≤ 9 := I.1 12
  have b4 : (1 : Int) ≤ iI s 89 ∧ iI s 89 ≤ 8 := I.1 89
  refine z_aload_n X (x := A 0) (show cdA 350 1103 = some (.aload_n 1, 1, 0, 0, 0) from rfl) (List.Mem.tail _ (List.Mem.head _)) ?_
  refine z_aload_n X (x := q1) (show cdA 350 1104 = some (.aload_n 0, 1, 0, 0, 0) from rfl) (List.Mem.head _) ?_
  refine z_load X (x := i) (show cdA 350 1105 = some (.iload 4, 2, 0, 0, 0) from rfl) (List.Mem.tail _ (List.Mem.tail _ (List.Mem.tail _ (List.Mem.tail _ (List.Mem.head _))))) ?_
  refine z_const X (show cdA 350 1107 = some (.iconst 1, 1, 0, 0, 0) from rfl) ?_
  refine z_add X (show cdA 350 1108 = some (.iadd, 1, 0, 0, 0) from rfl) ?_
  refine z_sld X S hL (show cdA 350 1109 = some (.iaload, 1, 0, 0, 0) from rfl) (show 0 ≤ (i + 1) ∧ (i + 1) < (L : Int) by omega) ?_
  have sr5 : rng (sc xs (i + 1)) := sc_rng
  refine z_aload_n X (x := A 517) (show cdA 350 1110 = some (.aload_n 3, 1, 0, 0, 0) from rfl) (List.Mem.tail _ (List.Mem.tail _ (List.Mem.tail _ (List.Mem.head _)))) ?_
  refine z_callL X (rm := rmN 334) (As := [.ref (A 0), .int (Int32.ofInt (sc xs (i + 1))), .ref (A 517)]) (st := []) (show cdA 350 1111 = some (.invokestatic 226, 3, 334, 6, 0) from rfl) (by decide) rfl (by rw [E.1, E.2.1, E.2.2.1]; exact lw_configure G I (by omega)) ⟨by rw [E.2.2.2]; exact (show 8 + 1 ≤ 2048 by omega), by rw [E.2.2.2]; exact (show 8 + (4 + 11) + 144 ≤ 84000 by omega), by rw [E.2.2.2]; exact (show ce + 1 ≤ 601024 by omega), by rw [E.2.2.2]; exact (show sl + 6 ≤ 7293034 by omega)⟩ (Nat.le_of_ble_eq_true rfl) (fun vv A s6 hA2 hq => ?_) (fun ee A s6 hA2 hq => ?_)
  rotate_left
  · obtain ⟨Is6, Fs6, e7, hv, hrs6, hps6⟩ := hq; cases hv
  obtain ⟨Is6, Fs6, e7, hv, hrs6, hps6⟩ := hq
  cases hv
  rw [← hA2 0 (by decide)]
  rw [← hA2 179 (by decide)]
  rw [← hA2 517 (by decide)]
  have Gs6 := fm_ts F Fs6 (by decide) (by decide)
  have JRLx_s6 : RLx s6 := RLx_fm Fs6 (by decide) jR
  have ws6_70 : iI s6 70 = iI s 70 := fm_i Fs6 (by decide)
  have ws6_107 : iI s6 107 = iI s 107 := fm_i Fs6 (by decide)
  have ws6_12 : iI s6 12 = iI s 12 := fm_i Fs6 (by decide)
  have ws6_89 : iI s6 89 = iI s 89 := fm_i Fs6 (by decide)
  show WS k 1114 [(0, .ref q1), (1, .ref (A 0)), (2, .ref (A 179)), (3, .ref (A 517)), (4, .int (Int32.ofInt i))] [.int (Int32.ofInt e7)] (Wd A dT s6) (ce + 1) (sl + 6)
  refine z_store X (lv' := [(5, .int (Int32.ofInt e7)), (0, .ref q1), (1, .ref (A 0)), (2, .ref (A 179)), (3, .ref (A 517)), (4, .int (Int32.ofInt i))]) (show cdA 350 1114 = some (.istore 5, 2, 0, 0, 0) from rfl) (by decide) (fun _ h => h) ?_
  refine z_aload_n X (x := A 179) (show cdA 350 1116 = some (.aload_n 2, 1, 0, 0, 0) from rfl) (List.Mem.tail _ (List.Mem.tail _ (List.Mem.tail _ (List.Mem.head _)))) ?_
  refine z_aload_n X (x := q1) (show cdA 350 1117 = some (.aload_n 0, 1, 0, 0, 0) from rfl) (List.Mem.tail _ (List.Mem.head _)) ?_
  refine z_load X (x := i) (show cdA 350 1118 = some (.iload 4, 2, 0, 0, 0) from rfl) (List.Mem.tail _ (List.Mem.tail _ (List.Mem.tail _ (List.Mem.tail _ (List.Mem.tail _ (List.Mem.head _)))))) ?_
  refine z_const X (show cdA 350 1120 = some (.iconst 1, 1, 0, 0, 0) from rfl) ?_
  refine z_add X (show cdA 350 1121 = some (.iadd, 1, 0, 0, 0) from rfl) ?_
  refine z_sld X S hL (show cdA 350 1122 = some (.iaload, 1, 0, 0, 0) from rfl) (show 0 ≤ (i + 1) ∧ (i + 1) < (L : Int) by omega) ?_
  have sr8 : rng (sc xs (i + 1)) := sc_rng
  refine z_callV X 179 (rm := rmN 264) (As := [.int (Int32.ofInt (sc xs (i + 1)))]) (st := []) (show cdA 350 1123 = some (.invokevirtual 228, 3, 264, 0, 0) from rfl) rfl (by decide) rfl (by rw [E.1, E.2.1, E.2.2.1]; exact k_configure G Is6 (by first | exact ⟨sr8.1, sr8.2⟩ | omega)) ⟨by rw [E.2.2.2]; exact (show 7 + 1 ≤ 2048 by omega), by rw [E.2.2.2]; exact (show 8 + (2 + 11) + 122 ≤ 84000 by omega), by rw [E.2.2.2]; exact (show (ce + 1) + 0 ≤ 601024 by omega), by rw [E.2.2.2]; exact (show (sl + 6) + 0 ≤ 7293034 by omega)⟩ (Nat.le_of_ble_eq_true rfl) (fun vv s9 hq => ?_) (fun ee s9 hq => ?_)
  rotate_left
  · obtain ⟨Is9, Fs9, e10, hv, hrs9, hps9⟩ := hq; cases hv
  obtain ⟨Is9, Fs9, e10, hv, hrs9, hps9⟩ := hq
  cases hv
  have Gs9 := fm_ts Gs6 Fs9 (by decide) (by decide)
  have JRLx_s9 : RLx s9 := RLx_fm Fs9 (by decide) JRLx_s6
  have ws9_70 : iI s9 70 = iI s6 70 := fm_i Fs9 (by decide)
  have ws9_107 : iI s9 107 = iI s6 107 := fm_i Fs9 (by decide)
  have ws9_12 : iI s9 12 = iI s6 12 := fm_i Fs9 (by decide)
  have ws9_89 : iI s9 89 = iI s6 89 := fm_i Fs9 (by decide)
  have wos9 : iO s9 = iO s6 := fm_o Fs9 (by decide)
  show WS k 1126 [(5, .int (Int32.ofInt e7)), (0, .ref q1), (1, .ref (A 0)), (2, .ref (A 179)), (3, .ref (A 517)), (4, .int (Int32.ofInt i))] [.int (Int32.ofInt e10)] (Wd A dT s9) (ce + 1) (sl + 6)
  refine z_store X (lv' := [(6, .int (Int32.ofInt e10)), (5, .int (Int32.ofInt e7)), (0, .ref q1), (1, .ref (A 0)), (2, .ref (A 179)), (3, .ref (A 517)), (4, .int (Int32.ofInt i))]) (show cdA 350 1126 = some (.istore 6, 2, 0, 0, 0) from rfl) (by decide) (fun _ h => h) ?_
  refine z_goto X (t := 1894) (show cdA 350 1128 = some (.goto 766, 3, 0, 0, 0) from rfl) (by decide) ?_
  refine w_widen (ce' := ce + 29) (sl' := sl + 222) (by omega) (by omega) ?_
  exact WS_lv (lv := [(0, .ref q1), (1, .ref (A 0)), (2, .ref (A 179)), (3, .ref (A 517)), (4, .int (Int32.ofInt i))]) (List.forall_mem_cons.mpr ⟨(List.Mem.tail _ (List.Mem.tail _ (List.Mem.head _))), (List.forall_mem_cons.mpr ⟨(List.Mem.tail _ (List.Mem.tail _ (List.Mem.tail _ (List.Mem.head _)))), (List.forall_mem_cons.mpr ⟨(List.Mem.tail _ (List.Mem.tail _ (List.Mem.tail _ (List.Mem.tail _ (List.Mem.head _))))), (List.forall_mem_cons.mpr ⟨(List.Mem.tail _ (List.Mem.tail _ (List.Mem.tail _ (List.Mem.tail _ (List.Mem.tail _ (List.Mem.head _)))))), (List.forall_mem_cons.mpr ⟨(List.Mem.tail _ (List.Mem.tail _ (List.Mem.tail _ (List.Mem.tail _ (List.Mem.tail _ (List.Mem.tail _ (List.Mem.head _))))))), (fun q h => absurd h List.not_mem_nil)⟩)⟩)⟩)⟩)⟩) (hk A _ Is9 JRLx_s9 (by omega) (by omega) (by omega))
theorem lc_26 (G : GX l s0 D tys a0 dT) (GR : RS0 s0) (SF : SF0 s0) (GT : TXs0 s0) {k : kx_T} (X : AX k 350 dT) (E : kL k = l ∧ kS0 k = s0 ∧ kD k = D ∧ kR k = room_1) {q1 L : Nat} {xs : Nat → Int32} (S : SX k q1 L xs) (hL : L ≤ 3072) (I : Bd s) (jR : RLx s) (p1 : iI s 89 = 1) (p2 : iI s 12 ≤ 8) (p3 : iI s 70 = iI s 107) {i : Int} (hi : 0 ≤ i ∧ i + 6 ≤ (L : Int)) {ce sl : Nat} (hce : ce + 29 ≤ 601024) (hsl : sl + 222 ≤ 7293034) (hk : ∀ (A : Nat → Nat) (t : PS), Bd t → RLx t → iI t 89 = 1 → iI t 12 ≤ 8 → iI t 70 = iI t 107 → WS k 1894 [(0, .ref q1), (1, .ref (A 0)), (2, .ref (A 179)), (3, .ref (A 517)), (4, .int (Int32.ofInt i))] [] (Wd A dT t) (ce + 29) (sl + 222)) : WS k 1131 [(0, .ref q1), (1, .ref (A 0)), (2, .ref (A 179)), (3, .ref (A 517)), (4, .int (Int32.ofInt i))] [] (Wd A dT s) ce sl := by
  have F : Fm [22, 23, 24, 73, 89, 77, 75, 78, 79, 80, 81] [33, 26, 27, 28, 29, 30, 31, 32, 20, 48, 47, 1460, 202, 204, 205, 206, 207, 208, 209, 210, 211, 212, 213, 214, 215, 216, 217, 218, 219, 220, 221, 222, 223, 224, 225, 226, 227, 203, 161, 230] s s := fm_rf _ _ s
  have b1 : (0 : Int) ≤ iI s 70 ∧ iI s 70 ≤ 40 := I.1 70
  have b2 : (0 : Int) ≤ iI s 107 ∧ iI s 107 ≤ 40 := I.1 107
  have b3 : (0 : Int) ≤ iI s 12 ∧ iI s 12 ≤ 9 := I.1 12
  have b4 : (1 : Int) ≤ iI s 89 ∧ iI s 89 ≤ 8 := I.1 89
  refine z_aload_n X (x := A 0) (show cdA 350 1131 = some (.aload_n 1, 1, 0, 0, 0) from rfl) (List.Mem.tail _ (List.Mem.head _)) ?_
  refine z_aload_n X (x := q1) (show cdA 350 1132 = some (.aload_n 0, 1, 0, 0, 0) from rfl) (List.Mem.head _) ?_
  refine z_load X (x := i) (show cdA 350 1133 = some (.iload 4, 2, 0, 0, 0) from rfl) (List.Mem.tail _ (List.Mem.tail _ (List.Mem.tail _ (List.Mem.tail _ (List.Mem.head _))))) ?_
  refine z_const X (show cdA 350 1135 = some (.iconst 1, 1, 0, 0, 0) from rfl) ?_
  refine z_add X (show cdA 350 1136 = some (.iadd, 1, 0, 0, 0) from rfl) ?_
  refine z_sld X S hL (show cdA 350 1137 = some (.iaload, 1, 0, 0, 0) from rfl) (show 0 ≤ (i + 1) ∧ (i + 1) < (L : Int) by omega) ?_
  have sr5 : rng (sc xs (i + 1)) := sc_rng
  refine z_aload_n X (x := q1) (show cdA 350 1138 = some (.aload_n 0, 1, 0, 0, 0) from rfl) (List.Mem.head _) ?_
  refine z_load X (x := i) (show cdA 350 1139 = some (.iload 4, 2, 0, 0, 0) from rfl) (List.Mem.tail _ (List.Mem.tail _ (List.Mem.tail _ (List.Mem.tail _ (List.Mem.head _))))) ?_
  refine z_const X (show cdA 350 1141 = some (.iconst 2, 1, 0, 0, 0) from rfl) ?_
  refine z_add X (show cdA 350 1142 = some (.iadd, 1, 0, 0, 0) from rfl) ?_
  refine z_sld X S hL (show cdA 350 1143 = some (.iaload, 1, 0, 0, 0) from rfl) (show 0 ≤ (i + 2) ∧ (i + 2) < (L : Int) by omega) ?_
  have sr6 : rng (sc xs (i + 2)) := sc_rng
  refine z_aload_n X (x := A 517) (show cdA 350 1144 = some (.aload_n 3, 1, 0, 0, 0) from rfl) (List.Mem.tail _ (List.Mem.tail _ (List.Mem.tail _ (List.Mem.head _)))) ?_
  refine z_callL X (rm := rmN 335) (As := [.ref (A 0), .int (Int32.ofInt (sc xs (i + 1))), .int (Int32.ofInt (sc xs (i + 2))), .ref (A 517)]) (st := []) (show cdA 350 1145 = some (.invokestatic 229, 3, 335, 6, 0) from rfl) (by decide) rfl (by rw [E.1, E.2.1, E.2.2.1]; exact lw_pairs G I (by omega) (by omega) (by omega)) ⟨by rw [E.2.2.2]; exact (show 12 + 1 ≤ 2048 by omega), by rw [E.2.2.2]; exact (show 8 + (5 + 11) + 248 ≤ 84000 by omega), by rw [E.2.2.2]; exact (show ce + 2 ≤ 601024 by omega), by rw [E.2.2.2]; exact (show sl + 12 ≤ 7293034 by omega)⟩ (Nat.le_of_ble_eq_true rfl) (fun vv A s7 hA2 hq => ?_) (fun ee A s7 hA2 hq => ?_)
  rotate_left
  · obtain ⟨Is7, Fs7, e8, hv, hrs7, hps7⟩ := hq; cases hv
  obtain ⟨Is7, Fs7, e8, hv, hrs7, hps7⟩ := hq
  cases hv
  rw [← hA2 0 (by decide)]
  rw [← hA2 179 (by decide)]
  rw [← hA2 517 (by decide)]
  have Gs7 := fm_ts F Fs7 (by decide) (by decide)
  have JRLx_s7 : RLx s7 := RLx_fm Fs7 (by decide) jR
  have ws7_70 : iI s7 70 = iI s 70 := fm_i Fs7 (by decide)
  have ws7_107 : iI s7 107 = iI s 107 := fm_i Fs7 (by decide)
  have ws7_12 : iI s7 12 = iI s 12 := fm_i Fs7 (by decide)
  have ws7_89 : iI s7 89 = iI s 89 := fm_i Fs7 (by decide)
  show WS k 1148 [(0, .ref q1), (1, .ref (A 0)), (2, .ref (A 179)), (3, .ref (A 517)), (4, .int (Int32.ofInt i))] [.int (Int32.ofInt e8)] (Wd A dT s7) (ce + 2) (sl + 12)
  refine z_store X (lv' := [(5, .int (Int32.ofInt e8)), (0, .ref q1), (1, .ref (A 0)), (2, .ref (A 179)), (3, .ref (A 517)), (4, .int (Int32.ofInt i))]) (show cdA 350 1148 = some (.istore 5, 2, 0, 0, 0) from rfl) (by decide) (fun _ h => h) ?_
  refine z_aload_n X (x := A 179) (show cdA 350 1150 = some (.aload_n 2, 1, 0, 0, 0) from rfl) (List.Mem.tail _ (List.Mem.tail _ (List.Mem.tail _ (List.Mem.head _)))) ?_
  refine z_aload_n X (x := q1) (show cdA 350 1151 = some (.aload_n 0, 1, 0, 0, 0) from rfl) (List.Mem.tail _ (List.Mem.head _)) ?_
  refine z_load X (x := i) (show cdA 350 1152 = some (.iload 4, 2, 0, 0, 0) from rfl) (List.Mem.tail _ (List.Mem.tail _ (List.Mem.tail _ (List.Mem.tail _ (List.Mem.tail _ (List.Mem.head _)))))) ?_
  refine z_const X (show cdA 350 1154 = some (.iconst 1, 1, 0, 0, 0) from rfl) ?_
  refine z_add X (show cdA 350 1155 = some (.iadd, 1, 0, 0, 0) from rfl) ?_
  refine z_sld X S hL (show cdA 350 1156 = some (.iaload, 1, 0, 0, 0) from rfl) (show 0 ≤ (i + 1) ∧ (i + 1) < (L : Int) by omega) ?_
  have sr9 : rng (sc xs (i + 1)) := sc_rng
  refine z_aload_n X (x := q1) (show cdA 350 1157 = some (.aload_n 0, 1, 0, 0, 0) from rfl) (List.Mem.tail _ (List.Mem.head _)) ?_
  refine z_load X (x := i) (show cdA 350 1158 = some (.iload 4, 2, 0, 0, 0) from rfl) (List.Mem.tail _ (List.Mem.tail _ (List.Mem.tail _ (List.Mem.tail _ (List.Mem.tail _ (List.Mem.head _)))))) ?_
  refine z_const X (show cdA 350 1160 = some (.iconst 2, 1, 0, 0, 0) from rfl) ?_
  refine z_add X (show cdA 350 1161 = some (.iadd, 1, 0, 0, 0) from rfl) ?_
  refine z_sld X S hL (show cdA 350 1162 = some (.iaload, 1, 0, 0, 0) from rfl) (show 0 ≤ (i + 2) ∧ (i + 2) < (L : Int) by omega) ?_
  have sr10 : rng (sc xs (i + 2)) := sc_rng
  refine z_callV X 179 (rm := rmN 267) (As := [.int (Int32.ofInt (sc xs (i + 1))), .int (Int32.ofInt (sc xs (i + 2)))]) (st := []) (show cdA 350 1163 = some (.invokevirtual 231, 3, 267, 0, 0) from rfl) rfl (by decide) rfl (by rw [E.1, E.2.1, E.2.2.1]; exact k_pairs G Is7 JRLx_s7 (by first | exact ⟨sr9.1, sr9.2⟩ | omega) (by first | exact ⟨sr10.1, sr10.2⟩ | omega)) ⟨by rw [E.2.2.2]; exact (show 62 + 1 ≤ 2048 by omega), by rw [E.2.2.2]; exact (show 8 + (3 + 11) + 2686 ≤ 84000 by omega), by rw [E.2.2.2]; exact (show (ce + 2) + 0 ≤ 601024 by omega), by rw [E.2.2.2]; exact (show (sl + 12) + 0 ≤ 7293034 by omega)⟩ (Nat.le_of_ble_eq_true rfl) (fun vv s11 hq => ?_) (fun ee s11 hq => ?_)
  rotate_left
  · obtain ⟨Is11, Fs11, JRLx_s11, e12, hv, hrs11, hps11⟩ := hq; cases hv
  obtain ⟨Is11, Fs11, JRLx_s11, e12, hv, hrs11, hps11⟩ := hq
  cases hv
  have Gs11 := fm_ts Gs7 Fs11 (by decide) (by decide)
  have JRLx_s11 : RLx s11 := RLx_fm Fs11 (by decide) JRLx_s7
  have ws11_70 : iI s11 70 = iI s7 70 := fm_i Fs11 (by decide)
  have ws11_107 : iI s11 107 = iI s7 107 := fm_i Fs11 (by decide)
  have ws11_12 : iI s11 12 = iI s7 12 := fm_i Fs11 (by decide)
  have b13 : (1 : Int) ≤ iI s11 89 ∧ iI s11 89 ≤ 8 := Is11.1 89
  have wos11 : iO s11 = iO s7 := fm_o Fs11 (by decide)
  replace hps11 := hps11 (by clear hps11; omega)
  show WS k 1166 [(5, .int (Int32.ofInt e8)), (0, .ref q1), (1, .ref (A 0)), (2, .ref (A 179)), (3, .ref (A 517)), (4, .int (Int32.ofInt i))] [.int (Int32.ofInt e12)] (Wd A dT s11) (ce + 2) (sl + 12)
  refine z_store X (lv' := [(6, .int (Int32.ofInt e12)), (5, .int (Int32.ofInt e8)), (0, .ref q1), (1, .ref (A 0)), (2, .ref (A 179)), (3, .ref (A 517)), (4, .int (Int32.ofInt i))]) (show cdA 350 1166 = some (.istore 6, 2, 0, 0, 0) from rfl) (by decide) (fun _ h => h) ?_
  refine z_goto X (t := 1894) (show cdA 350 1168 = some (.goto 726, 3, 0, 0, 0) from rfl) (by decide) ?_
  refine w_widen (ce' := ce + 29) (sl' := sl + 222) (by first | (clear hps11; omega) | omega) (by first | (clear hps11; omega) | omega) ?_
  exact WS_lv (lv := [(0, .ref q1), (1, .ref (A 0)), (2, .ref (A 179)), (3, .ref (A 517)), (4, .int (Int32.ofInt i))]) (List.forall_mem_cons.mpr ⟨(List.Mem.tail _ (List.Mem.tail _ (List.Mem.head _))), (List.forall_mem_cons.mpr ⟨(List.Mem.tail _ (List.Mem.tail _ (List.Mem.tail _ (List.Mem.head _)))), (List.forall_mem_cons.mpr ⟨(List.Mem.tail _ (List.Mem.tail _ (List.Mem.tail _ (List.Mem.tail _ (List.Mem.head _))))), (List.forall_mem_cons.mpr ⟨(List.Mem.tail _ (List.Mem.tail _ (List.Mem.tail _ (List.Mem.tail _ (List.Mem.tail _ (List.Mem.head _)))))), (List.forall_mem_cons.mpr ⟨(List.Mem.tail _ (List.Mem.tail _ (List.Mem.tail _ (List.Mem.tail _ (List.Mem.tail _ (List.Mem.tail _ (List.Mem.head _))))))), (fun q h => absurd h List.not_mem_nil)⟩)⟩)⟩)⟩)⟩) (hk A _ Is11 JRLx_s11 (by first | (clear hps11; omega) | omega) (by first | (clear hps11; omega) | omega) (by first | (clear hps11; omega) | omega))
theorem lc_27 (G : GX l s0 D tys a0 dT) (GR : RS0 s0) (SF : SF0 s0) (GT : TXs0 s0) {k : kx_T} (X : AX k 350 dT) (E : kL k = l ∧ kS0 k = s0 ∧ kD k = D ∧ kR k = room_1) {q1 L : Nat} {xs : Nat → Int32} (S : SX k q1 L xs) (hL : L ≤ 3072) (I : Bd s) (jR : RLx s) (p1 : iI s 89 = 1) (p2 : iI s 12 ≤ 8) (p3 : iI s 70 = iI s 107) {i : Int} (hi : 0 ≤ i ∧ i + 6 ≤ (L : Int)) {ce sl : Nat} (hce : ce + 29 ≤ 601024) (hsl : sl + 222 ≤ 7293034) (hk : ∀ (A : Nat → Nat) (t : PS), Bd t → RLx t → iI t 89 = 1 → iI t 12 ≤ 8 → iI t 70 = iI t 107 → WS k 1894 [(0, .ref q1), (1, .ref (A 0)), (2, .ref (A 179)), (3, .ref (A 517)), (4, .int (Int32.ofInt i))] [] (Wd A dT t) (ce + 29) (sl + 222)) : WS k 1171 [(0, .ref q1), (1, .ref (A 0)), (2, .ref (A 179)), (3, .ref (A 517)), (4, .int (Int32.ofInt i))] [] (Wd A dT s) ce sl := by
  have F : Fm [33, 73, 96] [1460] s s := fm_rf _ _ s
  have b1 : (0 : Int) ≤ iI s 70 ∧ iI s 70 ≤ 40 := I.1 70
  have b2 : (0 : Int) ≤ iI s 107 ∧ iI s 107 ≤ 40 := I.1 107
  have b3 : (0 : Int) ≤ iI s 12 ∧ iI s 12 ≤ 9 := I.1 12
  have b4 : (1 : Int) ≤ iI s 89 ∧ iI s 89 ≤ 8 := I.1 89
  refine z_aload_n X (x := A 0) (show cdA 350 1171 = some (.aload_n 1, 1, 0, 0, 0) from rfl) (List.Mem.tail _ (List.Mem.head _)) ?_
  refine z_aload_n X (x := q1) (show cdA 350 1172 = some (.aload_n 0, 1, 0, 0, 0) from rfl) (List.Mem.head _) ?_
  refine z_load X (x := i) (show cdA 350 1173 = some (.iload 4, 2, 0, 0, 0) from rfl) (List.Mem.tail _ (List.Mem.tail _ (List.Mem.tail _ (List.Mem.tail _ (List.Mem.head _))))) ?_
  refine z_const X (show cdA 350 1175 = some (.iconst 1, 1, 0, 0, 0) from rfl) ?_
  refine z_add X (show cdA 350 1176 = some (.iadd, 1, 0, 0, 0) from rfl) ?_
  refine z_sld X S hL (show cdA 350 1177 = some (.iaload, 1, 0, 0, 0) from rfl) (show 0 ≤ (i + 1) ∧ (i + 1) < (L : Int) by omega) ?_
  have sr5 : rng (sc xs (i + 1)) := sc_rng
  refine z_aload_n X (x := A 517) (show cdA 350 1178 = some (.aload_n 3, 1, 0, 0, 0) from rfl) (List.Mem.tail _ (List.Mem.tail _ (List.Mem.tail _ (List.Mem.head _)))) ?_
  refine z_callL X (rm := rmN 336) (As := [.ref (A 0), .int (Int32.ofInt (sc xs (i + 1))), .ref (A 517)]) (st := []) (show cdA 350 1179 = some (.invokestatic 232, 3, 336, 6, 0) from rfl) (by decide) rfl (by rw [E.1, E.2.1, E.2.2.1]; exact lw_busy G I (by omega)) ⟨by rw [E.2.2.2]; exact (show 8 + 1 ≤ 2048 by omega), by rw [E.2.2.2]; exact (show 8 + (4 + 11) + 145 ≤ 84000 by omega), by rw [E.2.2.2]; exact (show ce + 1 ≤ 601024 by omega), by rw [E.2.2.2]; exact (show sl + 6 ≤ 7293034 by omega)⟩ (Nat.le_of_ble_eq_true rfl) (fun vv A s6 hA2 hq => ?_) (fun ee A s6 hA2 hq => ?_)
  rotate_left
  · obtain ⟨Is6, Fs6, e7, hv, hrs6, hps6⟩ := hq; cases hv
  obtain ⟨Is6, Fs6, e7, hv, hrs6, hps6⟩ := hq
  cases hv
  rw [← hA2 0 (by decide)]
  rw [← hA2 179 (by decide)]
  rw [← hA2 517 (by decide)]
  have Gs6 := fm_ts F Fs6 (by decide) (by decide)
  have JRLx_s6 : RLx s6 := RLx_fm Fs6 (by decide) jR
  have ws6_70 : iI s6 70 = iI s 70 := fm_i Fs6 (by decide)
  have ws6_107 : iI s6 107 = iI s 107 := fm_i Fs6 (by decide)
  have ws6_12 : iI s6 12 = iI s 12 := fm_i Fs6 (by decide)
  have ws6_89 : iI s6 89 = iI s 89 := fm_i Fs6 (by decide)
  show WS k 1182 [(0, .ref q1), (1, .ref (A 0)), (2, .ref (A 179)), (3, .ref (A 517)), (4, .int (Int32.ofInt i))] [.int (Int32.ofInt e7)] (Wd A dT s6) (ce + 1) (sl + 6)
  refine z_store X (lv' := [(5, .int (Int32.ofInt e7)), (0, .ref q1), (1, .ref (A 0)), (2, .ref (A 179)), (3, .ref (A 517)), (4, .int (Int32.ofInt i))]) (show cdA 350 1182 = some (.istore 5, 2, 0, 0, 0) from rfl) (by decide) (fun _ h => h) ?_
  refine z_aload_n X (x := A 179) (show cdA 350 1184 = some (.aload_n 2, 1, 0, 0, 0) from rfl) (List.Mem.tail _ (List.Mem.tail _ (List.Mem.tail _ (List.Mem.head _)))) ?_
  refine z_aload_n X (x := q1) (show cdA 350 1185 = some (.aload_n 0, 1, 0, 0, 0) from rfl) (List.Mem.tail _ (List.Mem.head _)) ?_
  refine z_load X (x := i) (show cdA 350 1186 = some (.iload 4, 2, 0, 0, 0) from rfl) (List.Mem.tail _ (List.Mem.tail _ (List.Mem.tail _ (List.Mem.tail _ (List.Mem.tail _ (List.Mem.head _)))))) ?_
  refine z_const X (show cdA 350 1188 = some (.iconst 1, 1, 0, 0, 0) from rfl) ?_
  refine z_add X (show cdA 350 1189 = some (.iadd, 1, 0, 0, 0) from rfl) ?_
  refine z_sld X S hL (show cdA 350 1190 = some (.iaload, 1, 0, 0, 0) from rfl) (show 0 ≤ (i + 1) ∧ (i + 1) < (L : Int) by omega) ?_
  have sr8 : rng (sc xs (i + 1)) := sc_rng
  refine z_callV X 179 (rm := rmN 268) (As := [.int (Int32.ofInt (sc xs (i + 1)))]) (st := []) (show cdA 350 1191 = some (.invokevirtual 234, 3, 268, 0, 0) from rfl) rfl (by decide) rfl (by rw [E.1, E.2.1, E.2.2.1]; exact k_busy G Is6 (by first | exact ⟨sr8.1, sr8.2⟩ | omega)) ⟨by rw [E.2.2.2]; exact (show 7 + 1 ≤ 2048 by omega), by rw [E.2.2.2]; exact (show 8 + (3 + 11) + 122 ≤ 84000 by omega), by rw [E.2.2.2]; exact (show (ce + 1) + 0 ≤ 601024 by omega), by rw [E.2.2.2]; exact (show (sl + 6) + 0 ≤ 7293034 by omega)⟩ (Nat.le_of_ble_eq_true rfl) (fun vv s9 hq => ?_) (fun ee s9 hq => ?_)
  rotate_left
  · obtain ⟨Is9, Fs9, e10, hv, hrs9, hps9⟩ := hq; cases hv
  obtain ⟨Is9, Fs9, e10, hv, hrs9, hps9⟩ := hq
  cases hv
  have Gs9 := fm_ts Gs6 Fs9 (by decide) (by decide)
  have JRLx_s9 : RLx s9 := RLx_fm Fs9 (by decide) JRLx_s6
  have ws9_70 : iI s9 70 = iI s6 70 := fm_i Fs9 (by decide)
  have ws9_107 : iI s9 107 = iI s6 107 := fm_i Fs9 (by decide)
  have ws9_12 : iI s9 12 = iI s6 12 := fm_i Fs9 (by decide)
  have ws9_89 : iI s9 89 = iI s6 89 := fm_i Fs9 (by decide)
  have wos9 : iO s9 = iO s6 := fm_o Fs9 (by decide)
  show WS k 1194 [(5, .int (Int32.ofInt e7)), (0, .ref q1), (1, .ref (A 0)), (2, .ref (A 179)), (3, .ref (A 517)), (4, .int (Int32.ofInt i))] [.int (Int32.ofInt e10)] (Wd A dT s9) (ce + 1) (sl + 6)
  refine z_store X (lv' := [(6, .int (Int32.ofInt e10)), (5, .int (Int32.ofInt e7)), (0, .ref q1), (1, .ref (A 0)), (2, .ref (A 179)), (3, .ref (A 517)), (4, .int (Int32.ofInt i))]) (show cdA 350 1194 = some (.istore 6, 2, 0, 0, 0) from rfl) (by decide) (fun _ h => h) ?_
  refine z_goto X (t := 1894) (show cdA 350 1196 = some (.goto 698, 3, 0, 0, 0) from rfl) (by decide) ?_
  refine w_widen (ce' := ce + 29) (sl' := sl + 222) (by omega) (by omega) ?_
  exact WS_lv (lv := [(0, .ref q1), (1, .ref (A 0)), (2, .ref (A 179)), (3, .ref (A 517)), (4, .int (Int32.ofInt i))]) (List.forall_mem_cons.mpr ⟨(List.Mem.tail _ (List.Mem.tail _ (List.Mem.head _))), (List.forall_mem_cons.mpr ⟨(List.Mem.tail _ (List.Mem.tail _ (List.Mem.tail _ (List.Mem.head _)))), (List.forall_mem_cons.mpr ⟨(List.Mem.tail _ (List.Mem.tail _ (List.Mem.tail _ (List.Mem.tail _ (List.Mem.head _))))), (List.forall_mem_cons.mpr ⟨(List.Mem.tail _ (List.Mem.tail _ (List.Mem.tail _ (List.Mem.tail _ (List.Mem.tail _ (List.Mem.head _)))))), (List.forall_mem_cons.mpr ⟨(List.Mem.tail _ (List.Mem.tail _ (List.Mem.tail _ (List.Mem.tail _ (List.Mem.tail _ (List.Mem.tail _ (List.Mem.head _))))))), (fun q h => absurd h List.not_mem_nil)⟩)⟩)⟩)⟩)⟩) (hk A _ Is9 JRLx_s9 (by omega) (by omega) (by omega))
theorem lc_28 (G : GX l s0 D tys a0 dT) (GR : RS0 s0) (SF : SF0 s0) (GT : TXs0 s0) {k : kx_T} (X : AX k 350 dT) (E : kL k = l ∧ kS0 k = s0 ∧ kD k = D ∧ kR k = room_1) {q1 L : Nat} {xs : Nat → Int32} (S : SX k q1 L xs) (hL : L ≤ 3072) (I : Bd s) (jR : RLx s) (p1 : iI s 89 = 1) (p2 : iI s 12 ≤ 8) (p3 : iI s 70 = iI s 107) {i : Int} (hi : 0 ≤ i ∧ i + 6 ≤ (L : Int)) {ce sl : Nat} (hce : ce + 29 ≤ 601024) (hsl : sl + 222 ≤ 7293034) (hk : ∀ (A : Nat → Nat) (t : PS), Bd t → RLx t → iI t 89 = 1 → iI t 12 ≤ 8 → iI t 70 = iI t 107 → WS k 1894 [(0, .ref q1), (1, .ref (A 0)), (2, .ref (A 179)), (3, .ref (A 517)), (4, .int (Int32.ofInt i))] [] (Wd A dT t) (ce + 29) (sl + 222)) : WS k 1199 [(0, .ref q1), (1, .ref (A 0)), (2, .ref (A 179)), (3, .ref (A 517)), (4, .int (Int32.ofInt i))] [] (Wd A dT s) ce sl := by
  have F : Fm [22, 23, 24, 34, 35, 73, 77, 75, 78, 79, 80, 81, 89] [33, 26, 27, 28, 29, 30, 31, 32, 20, 48, 47, 49, 50, 51, 1460, 161, 230, 202, 204, 205, 206, 207, 208, 209, 210, 211, 212, 213, 214, 215, 216, 217, 218, 219, 220, 221, 222, 223, 224, 225, 226, 227, 203, 395, 396, 245, 246, 247, 248, 249, 250, 251, 252, 253, 254, 255, 256, 257, 258, 259, 260, 261, 262, 263, 264, 265, 266, 267, 268, 269, 270, 271, 272, 273, 274, 275, 276, 277, 278, 279, 280, 281, 282, 283, 284, 285, 286, 287, 288, 289, 290, 291, 292, 293, 294, 295, 296, 297, 298, 299, 300, 301, 302, 303, 304, 305, 306, 307, 308, 309, 310, 311, 312, 313, 314, 315, 316, 317, 318, 319, 320, 321, 322, 323, 324, 325, 326, 327, 328, 329, 330, 331, 332, 333, 334, 335, 336, 337, 338, 339, 340, 341, 342, 343, 344, 345, 346, 347, 348, 349, 350, 351, 352, 353, 354, 355, 356, 357, 358, 359, 360, 361, 362, 363, 364, 365, 366, 367, 368, 369, 370, 371, 372, 373, 374, 375, 376, 377, 378, 379, 380, 381, 382, 383, 384, 385, 386, 387, 388, 389, 390, 391, 392, 393, 394] s s := fm_rf _ _ s
  have b1 : (0 : Int) ≤ iI s 70 ∧ iI s 70 ≤ 40 := I.1 70
  have b2 : (0 : Int) ≤ iI s 107 ∧ iI s 107 ≤ 40 := I.1 107
  have b3 : (0 : Int) ≤ iI s 12 ∧ iI s 12 ≤ 9 := I.1 12
  have b4 : (1 : Int) ≤ iI s 89 ∧ iI s 89 ≤ 8 := I.1 89
  refine z_aload_n X (x := A 0) (show cdA 350 1199 = some (.aload_n 1, 1, 0, 0, 0) from rfl) (List.Mem.tail _ (List.Mem.head _)) ?_
  refine z_aload_n X (x := q1) (show cdA 350 1200 = some (.aload_n 0, 1, 0, 0, 0) from rfl) (List.Mem.head _) ?_
  refine z_load X (x := i) (show cdA 350 1201 = some (.iload 4, 2, 0, 0, 0) from rfl) (List.Mem.tail _ (List.Mem.tail _ (List.Mem.tail _ (List.Mem.tail _ (List.Mem.head _))))) ?_
  refine z_const X (show cdA 350 1203 = some (.iconst 1, 1, 0, 0, 0) from rfl) ?_
  refine z_add X (show cdA 350 1204 = some (.iadd, 1, 0, 0, 0) from rfl) ?_
  refine z_sld X S hL (show cdA 350 1205 = some (.iaload, 1, 0, 0, 0) from rfl) (show 0 ≤ (i + 1) ∧ (i + 1) < (L : Int) by omega) ?_
  have sr5 : rng (sc xs (i + 1)) := sc_rng
  refine z_aload_n X (x := q1) (show cdA 350 1206 = some (.aload_n 0, 1, 0, 0, 0) from rfl) (List.Mem.head _) ?_
  refine z_load X (x := i) (show cdA 350 1207 = some (.iload 4, 2, 0, 0, 0) from rfl) (List.Mem.tail _ (List.Mem.tail _ (List.Mem.tail _ (List.Mem.tail _ (List.Mem.head _))))) ?_
  refine z_const X (show cdA 350 1209 = some (.iconst 2, 1, 0, 0, 0) from rfl) ?_
  refine z_add X (show cdA 350 1210 = some (.iadd, 1, 0, 0, 0) from rfl) ?_
  refine z_sld X S hL (show cdA 350 1211 = some (.iaload, 1, 0, 0, 0) from rfl) (show 0 ≤ (i + 2) ∧ (i + 2) < (L : Int) by omega) ?_
  have sr6 : rng (sc xs (i + 2)) := sc_rng
  refine z_aload_n X (x := A 517) (show cdA 350 1212 = some (.aload_n 3, 1, 0, 0, 0) from rfl) (List.Mem.tail _ (List.Mem.tail _ (List.Mem.tail _ (List.Mem.head _)))) ?_
  refine z_callL X (rm := rmN 337) (As := [.ref (A 0), .int (Int32.ofInt (sc xs (i + 1))), .int (Int32.ofInt (sc xs (i + 2))), .ref (A 517)]) (st := []) (show cdA 350 1213 = some (.invokestatic 235, 3, 337, 6, 0) from rfl) (by decide) rfl (by rw [E.1, E.2.1, E.2.2.1]; exact lw_plan G I (by omega) (by omega) (by omega)) ⟨by rw [E.2.2.2]; exact (show 13 + 1 ≤ 2048 by omega), by rw [E.2.2.2]; exact (show 8 + (5 + 11) + 273 ≤ 84000 by omega), by rw [E.2.2.2]; exact (show ce + 2 ≤ 601024 by omega), by rw [E.2.2.2]; exact (show sl + 12 ≤ 7293034 by omega)⟩ (Nat.le_of_ble_eq_true rfl) (fun vv A s7 hA2 hq => ?_) (fun ee A s7 hA2 hq => ?_)
  rotate_left
  · obtain ⟨Is7, Fs7, e8, hv, hrs7, hps7⟩ := hq; cases hv
  obtain ⟨Is7, Fs7, e8, hv, hrs7, hps7⟩ := hq
  cases hv
  rw [← hA2 0 (by decide)]
  rw [← hA2 179 (by decide)]
  rw [← hA2 517 (by decide)]
  have Gs7 := fm_ts F Fs7 (by decide) (by decide)
  have JRLx_s7 : RLx s7 := RLx_fm Fs7 (by decide) jR
  have ws7_70 : iI s7 70 = iI s 70 := fm_i Fs7 (by decide)
  have ws7_107 : iI s7 107 = iI s 107 := fm_i Fs7 (by decide)
  have ws7_12 : iI s7 12 = iI s 12 := fm_i Fs7 (by decide)
  have ws7_89 : iI s7 89 = iI s 89 := fm_i Fs7 (by decide)
  show WS k 1216 [(0, .ref q1), (1, .ref (A 0)), (2, .ref (A 179)), (3, .ref (A 517)), (4, .int (Int32.ofInt i))] [.int (Int32.ofInt e8)] (Wd A dT s7) (ce + 2) (sl + 12)
  refine z_store X (lv' := [(5, .int (Int32.ofInt e8)), (0, .ref q1), (1, .ref (A 0)), (2, .ref (A 179)), (3, .ref (A 517)), (4, .int (Int32.ofInt i))]) (show cdA 350 1216 = some (.istore 5, 2, 0, 0, 0) from rfl) (by decide) (fun _ h => h) ?_
  refine z_aload_n X (x := A 179) (show cdA 350 1218 = some (.aload_n 2, 1, 0, 0, 0) from rfl) (List.Mem.tail _ (List.Mem.tail _ (List.Mem.tail _ (List.Mem.head _)))) ?_
  refine z_aload_n X (x := q1) (show cdA 350 1219 = some (.aload_n 0, 1, 0, 0, 0) from rfl) (List.Mem.tail _ (List.Mem.head _)) ?_
  refine z_load X (x := i) (show cdA 350 1220 = some (.iload 4, 2, 0, 0, 0) from rfl) (List.Mem.tail _ (List.Mem.tail _ (List.Mem.tail _ (List.Mem.tail _ (List.Mem.tail _ (List.Mem.head _)))))) ?_
  refine z_const X (show cdA 350 1222 = some (.iconst 1, 1, 0, 0, 0) from rfl) ?_
  refine z_add X (show cdA 350 1223 = some (.iadd, 1, 0, 0, 0) from rfl) ?_
  refine z_sld X S hL (show cdA 350 1224 = some (.iaload, 1, 0, 0, 0) from rfl) (show 0 ≤ (i + 1) ∧ (i + 1) < (L : Int) by omega) ?_
  have sr9 : rng (sc xs (i + 1)) := sc_rng
  refine z_aload_n X (x := q1) (show cdA 350 1225 = some (.aload_n 0, 1, 0, 0, 0) from rfl) (List.Mem.tail _ (List.Mem.head _)) ?_
  refine z_load X (x := i) (show cdA 350 1226 = some (.iload 4, 2, 0, 0, 0) from rfl) (List.Mem.tail _ (List.Mem.tail _ (List.Mem.tail _ (List.Mem.tail _ (List.Mem.tail _ (List.Mem.head _)))))) ?_
  refine z_const X (show cdA 350 1228 = some (.iconst 2, 1, 0, 0, 0) from rfl) ?_
  refine z_add X (show cdA 350 1229 = some (.iadd, 1, 0, 0, 0) from rfl) ?_
  refine z_sld X S hL (show cdA 350 1230 = some (.iaload, 1, 0, 0, 0) from rfl) (show 0 ≤ (i + 2) ∧ (i + 2) < (L : Int) by omega) ?_
  have sr10 : rng (sc xs (i + 2)) := sc_rng
  refine z_callV X 179 (rm := rmN 272) (As := [.int (Int32.ofInt (sc xs (i + 1))), .int (Int32.ofInt (sc xs (i + 2)))]) (st := []) (show cdA 350 1231 = some (.invokevirtual 237, 3, 272, 0, 0) from rfl) rfl (by decide) rfl (by rw [E.1, E.2.1, E.2.2.1]; exact k_plan G Is7 JRLx_s7 (by first | exact ⟨sr9.1, sr9.2⟩ | omega) (by first | exact ⟨sr10.1, sr10.2⟩ | omega) (by omega)) ⟨by rw [E.2.2.2]; exact (show 64 + 1 ≤ 2048 by omega), by rw [E.2.2.2]; exact (show 8 + (6 + 11) + 2742 ≤ 84000 by omega), by rw [E.2.2.2]; exact (show (ce + 2) + 0 ≤ 601024 by omega), by rw [E.2.2.2]; exact (show (sl + 12) + 0 ≤ 7293034 by omega)⟩ (Nat.le_of_ble_eq_true rfl) (fun vv s11 hq => ?_) (fun ee s11 hq => ?_)
  rotate_left
  · obtain ⟨Is11, Fs11, JRLx_s11, e12, hv, hrs11, hps11⟩ := hq; cases hv
  obtain ⟨Is11, Fs11, JRLx_s11, e12, hv, hrs11, hps11⟩ := hq
  cases hv
  have Gs11 := fm_ts Gs7 Fs11 (by decide) (by decide +kernel)
  have JRLx_s11 : RLx s11 := RLx_fm Fs11 (by decide) JRLx_s7
  have ws11_70 : iI s11 70 = iI s7 70 := fm_i Fs11 (by decide)
  have ws11_107 : iI s11 107 = iI s7 107 := fm_i Fs11 (by decide)
  have ws11_12 : iI s11 12 = iI s7 12 := fm_i Fs11 (by decide)
  have b13 : (1 : Int) ≤ iI s11 89 ∧ iI s11 89 ≤ 8 := Is11.1 89
  have wos11 : iO s11 = iO s7 := fm_o Fs11 (by decide)
  show WS k 1234 [(5, .int (Int32.ofInt e8)), (0, .ref q1), (1, .ref (A 0)), (2, .ref (A 179)), (3, .ref (A 517)), (4, .int (Int32.ofInt i))] [.int (Int32.ofInt e12)] (Wd A dT s11) (ce + 2) (sl + 12)
  refine z_store X (lv' := [(6, .int (Int32.ofInt e12)), (5, .int (Int32.ofInt e8)), (0, .ref q1), (1, .ref (A 0)), (2, .ref (A 179)), (3, .ref (A 517)), (4, .int (Int32.ofInt i))]) (show cdA 350 1234 = some (.istore 6, 2, 0, 0, 0) from rfl) (by decide) (fun _ h => h) ?_
  refine z_goto X (t := 1894) (show cdA 350 1236 = some (.goto 658, 3, 0, 0, 0) from rfl) (by decide) ?_
  refine w_widen (ce' := ce + 29) (sl' := sl + 222) (by omega) (by omega) ?_
  exact WS_lv (lv := [(0, .ref q1), (1, .ref (A 0)), (2, .ref (A 179)), (3, .ref (A 517)), (4, .int (Int32.ofInt i))]) (List.forall_mem_cons.mpr ⟨(List.Mem.tail _ (List.Mem.tail _ (List.Mem.head _))), (List.forall_mem_cons.mpr ⟨(List.Mem.tail _ (List.Mem.tail _ (List.Mem.tail _ (List.Mem.head _)))), (List.forall_mem_cons.mpr ⟨(List.Mem.tail _ (List.Mem.tail _ (List.Mem.tail _ (List.Mem.tail _ (List.Mem.head _))))), (List.forall_mem_cons.mpr ⟨(List.Mem.tail _ (List.Mem.tail _ (List.Mem.tail _ (List.Mem.tail _ (List.Mem.tail _ (List.Mem.head _)))))), (List.forall_mem_cons.mpr ⟨(List.Mem.tail _ (List.Mem.tail _ (List.Mem.tail _ (List.Mem.tail _ (List.Mem.tail _ (List.Mem.tail _ (List.Mem.head _))))))), (fun q h => absurd h List.not_mem_nil)⟩)⟩)⟩)⟩)⟩) (hk A _ Is11 JRLx_s11 (by omega) (by omega) (by omega))
theorem lc_29 (G : GX l s0 D tys a0 dT) (GR : RS0 s0) (SF : SF0 s0) (GT : TXs0 s0) {k : kx_T} (X : AX k 350 dT) (E : kL k = l ∧ kS0 k = s0 ∧ kD k = D ∧ kR k = room_1) {q1 L : Nat} {xs : Nat → Int32} (S : SX k q1 L xs) (hL : L ≤ 3072) (I : Bd s) (jR : RLx s) (p1 : iI s 89 = 1) (p2 : iI s 12 ≤ 8) (p3 : iI s 70 = iI s 107) {i : Int} (hi : 0 ≤ i ∧ i + 6 ≤ (L : Int)) {ce sl : Nat} (hce : ce + 29 ≤ 601024) (hsl : sl + 222 ≤ 7293034) (hk : ∀ (A : Nat → Nat) (t : PS), Bd t → RLx t → iI t 89 = 1 → iI t 12 ≤ 8 → iI t 70 = iI t 107 → WS k 1894 [(0, .ref q1), (1, .ref (A 0)), (2, .ref (A 179)), (3, .ref (A 517)), (4, .int (Int32.ofInt i))] [] (Wd A dT t) (ce + 29) (sl + 222)) : WS k 1239 [(0, .ref q1), (1, .ref (A 0)), (2, .ref (A 179)), (3, .ref (A 517)), (4, .int (Int32.ofInt i))] [] (Wd A dT s) ce sl := by
  have F : Fm [36, 37, 73, 102, 103] [1460] s s := fm_rf _ _ s
  have b1 : (0 : Int) ≤ iI s 70 ∧ iI s 70 ≤ 40 := I.1 70
  have b2 : (0 : Int) ≤ iI s 107 ∧ iI s 107 ≤ 40 := I.1 107
  have b3 : (0 : Int) ≤ iI s 12 ∧ iI s 12 ≤ 9 := I.1 12
  have b4 : (1 : Int) ≤ iI s 89 ∧ iI s 89 ≤ 8 := I.1 89
  refine z_aload_n X (x := A 0) (show cdA 350 1239 = some (.aload_n 1, 1, 0, 0, 0) from rfl) (List.Mem.tail _ (List.Mem.head _)) ?_
  refine z_aload_n X (x := q1) (show cdA 350 1240 = some (.aload_n 0, 1, 0, 0, 0) from rfl) (List.Mem.head _) ?_
  refine z_load X (x := i) (show cdA 350 1241 = some (.iload 4, 2, 0, 0, 0) from rfl) (List.Mem.tail _ (List.Mem.tail _ (List.Mem.tail _ (List.Mem.tail _ (List.Mem.head _))))) ?_
  refine z_const X (show cdA 350 1243 = some (.iconst 1, 1, 0, 0, 0) from rfl) ?_
  refine z_add X (show cdA 350 1244 = some (.iadd, 1, 0, 0, 0) from rfl) ?_
  refine z_sld X S hL (show cdA 350 1245 = some (.iaload, 1, 0, 0, 0) from rfl) (show 0 ≤ (i + 1) ∧ (i + 1) < (L : Int) by omega) ?_
  have sr5 : rng (sc xs (i + 1)) := sc_rng
  refine z_aload_n X (x := q1) (show cdA 350 1246 = some (.aload_n 0, 1, 0, 0, 0) from rfl) (List.Mem.head _) ?_
  refine z_load X (x := i) (show cdA 350 1247 = some (.iload 4, 2, 0, 0, 0) from rfl) (List.Mem.tail _ (List.Mem.tail _ (List.Mem.tail _ (List.Mem.tail _ (List.Mem.head _))))) ?_
  refine z_const X (show cdA 350 1249 = some (.iconst 2, 1, 0, 0, 0) from rfl) ?_
  refine z_add X (show cdA 350 1250 = some (.iadd, 1, 0, 0, 0) from rfl) ?_
  refine z_sld X S hL (show cdA 350 1251 = some (.iaload, 1, 0, 0, 0) from rfl) (show 0 ≤ (i + 2) ∧ (i + 2) < (L : Int) by omega) ?_
  have sr6 : rng (sc xs (i + 2)) := sc_rng
  refine z_aload_n X (x := A 517) (show cdA 350 1252 = some (.aload_n 3, 1, 0, 0, 0) from rfl) (List.Mem.tail _ (List.Mem.tail _ (List.Mem.tail _ (List.Mem.head _)))) ?_
  refine z_callL X (rm := rmN 338) (As := [.ref (A 0), .int (Int32.ofInt (sc xs (i + 1))), .int (Int32.ofInt (sc xs (i + 2))), .ref (A 517)]) (st := []) (show cdA 350 1253 = some (.invokestatic 238, 3, 338, 6, 0) from rfl) (by decide) rfl (by rw [E.1, E.2.1, E.2.2.1]; exact lw_hours G I (by omega) (by omega)) ⟨by rw [E.2.2.2]; exact (show 8 + 1 ≤ 2048 by omega), by rw [E.2.2.2]; exact (show 8 + (5 + 11) + 145 ≤ 84000 by omega), by rw [E.2.2.2]; exact (show ce + 2 ≤ 601024 by omega), by rw [E.2.2.2]; exact (show sl + 12 ≤ 7293034 by omega)⟩ (Nat.le_of_ble_eq_true rfl) (fun vv A s7 hA2 hq => ?_) (fun ee A s7 hA2 hq => ?_)
  rotate_left
  · obtain ⟨Is7, Fs7, e8, hv, hrs7, hps7⟩ := hq; cases hv
  obtain ⟨Is7, Fs7, e8, hv, hrs7, hps7⟩ := hq
  cases hv
  rw [← hA2 0 (by decide)]
  rw [← hA2 179 (by decide)]
  rw [← hA2 517 (by decide)]
  have Gs7 := fm_ts F Fs7 (by decide) (by decide)
  have JRLx_s7 : RLx s7 := RLx_fm Fs7 (by decide) jR
  have ws7_70 : iI s7 70 = iI s 70 := fm_i Fs7 (by decide)
  have ws7_107 : iI s7 107 = iI s 107 := fm_i Fs7 (by decide)
  have ws7_12 : iI s7 12 = iI s 12 := fm_i Fs7 (by decide)
  have ws7_89 : iI s7 89 = iI s 89 := fm_i Fs7 (by decide)
  show WS k 1256 [(0, .ref q1), (1, .ref (A 0)), (2, .ref (A 179)), (3, .ref (A 517)), (4, .int (Int32.ofInt i))] [.int (Int32.ofInt e8)] (Wd A dT s7) (ce + 2) (sl + 12)
  refine z_store X (lv' := [(5, .int (Int32.ofInt e8)), (0, .ref q1), (1, .ref (A 0)), (2, .ref (A 179)), (3, .ref (A 517)), (4, .int (Int32.ofInt i))]) (show cdA 350 1256 = some (.istore 5, 2, 0, 0, 0) from rfl) (by decide) (fun _ h => h) ?_
  refine z_aload_n X (x := A 179) (show cdA 350 1258 = some (.aload_n 2, 1, 0, 0, 0) from rfl) (List.Mem.tail _ (List.Mem.tail _ (List.Mem.tail _ (List.Mem.head _)))) ?_
  refine z_aload_n X (x := q1) (show cdA 350 1259 = some (.aload_n 0, 1, 0, 0, 0) from rfl) (List.Mem.tail _ (List.Mem.head _)) ?_
  refine z_load X (x := i) (show cdA 350 1260 = some (.iload 4, 2, 0, 0, 0) from rfl) (List.Mem.tail _ (List.Mem.tail _ (List.Mem.tail _ (List.Mem.tail _ (List.Mem.tail _ (List.Mem.head _)))))) ?_
  refine z_const X (show cdA 350 1262 = some (.iconst 1, 1, 0, 0, 0) from rfl) ?_
  refine z_add X (show cdA 350 1263 = some (.iadd, 1, 0, 0, 0) from rfl) ?_
  refine z_sld X S hL (show cdA 350 1264 = some (.iaload, 1, 0, 0, 0) from rfl) (show 0 ≤ (i + 1) ∧ (i + 1) < (L : Int) by omega) ?_
  have sr9 : rng (sc xs (i + 1)) := sc_rng
  refine z_aload_n X (x := q1) (show cdA 350 1265 = some (.aload_n 0, 1, 0, 0, 0) from rfl) (List.Mem.tail _ (List.Mem.head _)) ?_
  refine z_load X (x := i) (show cdA 350 1266 = some (.iload 4, 2, 0, 0, 0) from rfl) (List.Mem.tail _ (List.Mem.tail _ (List.Mem.tail _ (List.Mem.tail _ (List.Mem.tail _ (List.Mem.head _)))))) ?_
  refine z_const X (show cdA 350 1268 = some (.iconst 2, 1, 0, 0, 0) from rfl) ?_
  refine z_add X (show cdA 350 1269 = some (.iadd, 1, 0, 0, 0) from rfl) ?_
  refine z_sld X S hL (show cdA 350 1270 = some (.iaload, 1, 0, 0, 0) from rfl) (show 0 ≤ (i + 2) ∧ (i + 2) < (L : Int) by omega) ?_
  have sr10 : rng (sc xs (i + 2)) := sc_rng
  refine z_callV X 179 (rm := rmN 273) (As := [.int (Int32.ofInt (sc xs (i + 1))), .int (Int32.ofInt (sc xs (i + 2)))]) (st := []) (show cdA 350 1271 = some (.invokevirtual 240, 3, 273, 0, 0) from rfl) rfl (by decide) rfl (by rw [E.1, E.2.1, E.2.2.1]; exact k_hours G Is7 (by first | exact ⟨sr9.1, sr9.2⟩ | omega) (by first | exact ⟨sr10.1, sr10.2⟩ | omega)) ⟨by rw [E.2.2.2]; exact (show 7 + 1 ≤ 2048 by omega), by rw [E.2.2.2]; exact (show 8 + (4 + 11) + 122 ≤ 84000 by omega), by rw [E.2.2.2]; exact (show (ce + 2) + 0 ≤ 601024 by omega), by rw [E.2.2.2]; exact (show (sl + 12) + 0 ≤ 7293034 by omega)⟩ (Nat.le_of_ble_eq_true rfl) (fun vv s11 hq => ?_) (fun ee s11 hq => ?_)
  rotate_left
  · obtain ⟨Is11, Fs11, e12, hv, hrs11, hps11⟩ := hq; cases hv
  obtain ⟨Is11, Fs11, e12, hv, hrs11, hps11⟩ := hq
  cases hv
  have Gs11 := fm_ts Gs7 Fs11 (by decide) (by decide)
  have JRLx_s11 : RLx s11 := RLx_fm Fs11 (by decide) JRLx_s7
  have ws11_70 : iI s11 70 = iI s7 70 := fm_i Fs11 (by decide)
  have ws11_107 : iI s11 107 = iI s7 107 := fm_i Fs11 (by decide)
  have ws11_12 : iI s11 12 = iI s7 12 := fm_i Fs11 (by decide)
  have ws11_89 : iI s11 89 = iI s7 89 := fm_i Fs11 (by decide)
  have wos11 : iO s11 = iO s7 := fm_o Fs11 (by decide)
  show WS k 1274 [(5, .int (Int32.ofInt e8)), (0, .ref q1), (1, .ref (A 0)), (2, .ref (A 179)), (3, .ref (A 517)), (4, .int (Int32.ofInt i))] [.int (Int32.ofInt e12)] (Wd A dT s11) (ce + 2) (sl + 12)
  refine z_store X (lv' := [(6, .int (Int32.ofInt e12)), (5, .int (Int32.ofInt e8)), (0, .ref q1), (1, .ref (A 0)), (2, .ref (A 179)), (3, .ref (A 517)), (4, .int (Int32.ofInt i))]) (show cdA 350 1274 = some (.istore 6, 2, 0, 0, 0) from rfl) (by decide) (fun _ h => h) ?_
  refine z_goto X (t := 1894) (show cdA 350 1276 = some (.goto 618, 3, 0, 0, 0) from rfl) (by decide) ?_
  refine w_widen (ce' := ce + 29) (sl' := sl + 222) (by omega) (by omega) ?_
  exact WS_lv (lv := [(0, .ref q1), (1, .ref (A 0)), (2, .ref (A 179)), (3, .ref (A 517)), (4, .int (Int32.ofInt i))]) (List.forall_mem_cons.mpr ⟨(List.Mem.tail _ (List.Mem.tail _ (List.Mem.head _))), (List.forall_mem_cons.mpr ⟨(List.Mem.tail _ (List.Mem.tail _ (List.Mem.tail _ (List.Mem.head _)))), (List.forall_mem_cons.mpr ⟨(List.Mem.tail _ (List.Mem.tail _ (List.Mem.tail _ (List.Mem.tail _ (List.Mem.head _))))), (List.forall_mem_cons.mpr ⟨(List.Mem.tail _ (List.Mem.tail _ (List.Mem.tail _ (List.Mem.tail _ (List.Mem.tail _ (List.Mem.head _)))))), (List.forall_mem_cons.mpr ⟨(List.Mem.tail _ (List.Mem.tail _ (List.Mem.tail _ (List.Mem.tail _ (List.Mem.tail _ (List.Mem.tail _ (List.Mem.head _))))))), (fun q h => absurd h List.not_mem_nil)⟩)⟩)⟩)⟩)⟩) (hk A _ Is11 JRLx_s11 (by omega) (by omega) (by omega))
theorem lc_30 (G : GX l s0 D tys a0 dT) (GR : RS0 s0) (SF : SF0 s0) (GT : TXs0 s0) {k : kx_T} (X : AX k 350 dT) (E : kL k = l ∧ kS0 k = s0 ∧ kD k = D ∧ kR k = room_1) {q1 L : Nat} {xs : Nat → Int32} (S : SX k q1 L xs) (hL : L ≤ 3072) (I : Bd s) (jR : RLx s) (p1 : iI s 89 = 1) (p2 : iI s 12 ≤ 8) (p3 : iI s 70 = iI s 107) {i : Int} (hi : 0 ≤ i ∧ i + 6 ≤ (L : Int)) {ce sl : Nat} (hce : ce + 29 ≤ 601024) (hsl : sl + 222 ≤ 7293034) (hk : ∀ (A : Nat → Nat) (t : PS), Bd t → RLx t → iI t 89 = 1 → iI t 12 ≤ 8 → iI t 70 = iI t 107 → WS k 1894 [(0, .ref q1), (1, .ref (A 0)), (2, .ref (A 179)), (3, .ref (A 517)), (4, .int (Int32.ofInt i))] [] (Wd A dT t) (ce + 29) (sl + 222)) : WS k 1279 [(0, .ref q1), (1, .ref (A 0)), (2, .ref (A 179)), (3, .ref (A 517)), (4, .int (Int32.ofInt i))] [] (Wd A dT s) ce sl := by
  have F : Fm [73] [52, 1460, 398] s s := fm_rf _ _ s
  have b1 : (0 : Int) ≤ iI s 70 ∧ iI s 70 ≤ 40 := I.1 70
  have b2 : (0 : Int) ≤ iI s 107 ∧ iI s 107 ≤ 40 := I.1 107
  have b3 : (0 : Int) ≤ iI s 12 ∧ iI s 12 ≤ 9 := I.1 12
  have b4 : (1 : Int) ≤ iI s 89 ∧ iI s 89 ≤ 8 := I.1 89
  refine z_aload_n X (x := A 0) (show cdA 350 1279 = some (.aload_n 1, 1, 0, 0, 0) from rfl) (List.Mem.tail _ (List.Mem.head _)) ?_
  refine z_aload_n X (x := q1) (show cdA 350 1280 = some (.aload_n 0, 1, 0, 0, 0) from rfl) (List.Mem.head _) ?_
  refine z_load X (x := i) (show cdA 350 1281 = some (.iload 4, 2, 0, 0, 0) from rfl) (List.Mem.tail _ (List.Mem.tail _ (List.Mem.tail _ (List.Mem.tail _ (List.Mem.head _))))) ?_
  refine z_const X (show cdA 350 1283 = some (.iconst 1, 1, 0, 0, 0) from rfl) ?_
  refine z_add X (show cdA 350 1284 = some (.iadd, 1, 0, 0, 0) from rfl) ?_
  refine z_sld X S hL (show cdA 350 1285 = some (.iaload, 1, 0, 0, 0) from rfl) (show 0 ≤ (i + 1) ∧ (i + 1) < (L : Int) by omega) ?_
  have sr5 : rng (sc xs (i + 1)) := sc_rng
  refine z_aload_n X (x := q1) (show cdA 350 1286 = some (.aload_n 0, 1, 0, 0, 0) from rfl) (List.Mem.head _) ?_
  refine z_load X (x := i) (show cdA 350 1287 = some (.iload 4, 2, 0, 0, 0) from rfl) (List.Mem.tail _ (List.Mem.tail _ (List.Mem.tail _ (List.Mem.tail _ (List.Mem.head _))))) ?_
  refine z_const X (show cdA 350 1289 = some (.iconst 2, 1, 0, 0, 0) from rfl) ?_
  refine z_add X (show cdA 350 1290 = some (.iadd, 1, 0, 0, 0) from rfl) ?_
  refine z_sld X S hL (show cdA 350 1291 = some (.iaload, 1, 0, 0, 0) from rfl) (show 0 ≤ (i + 2) ∧ (i + 2) < (L : Int) by omega) ?_
  have sr6 : rng (sc xs (i + 2)) := sc_rng
  refine z_aload_n X (x := A 517) (show cdA 350 1292 = some (.aload_n 3, 1, 0, 0, 0) from rfl) (List.Mem.tail _ (List.Mem.tail _ (List.Mem.tail _ (List.Mem.head _)))) ?_
  refine z_callL X (rm := rmN 339) (As := [.ref (A 0), .int (Int32.ofInt (sc xs (i + 1))), .int (Int32.ofInt (sc xs (i + 2))), .ref (A 517)]) (st := []) (show cdA 350 1293 = some (.invokestatic 241, 3, 339, 6, 0) from rfl) (by decide) rfl (by rw [E.1, E.2.1, E.2.2.1]; exact lw_ill G I (by omega) (by omega)) ⟨by rw [E.2.2.2]; exact (show 8 + 1 ≤ 2048 by omega), by rw [E.2.2.2]; exact (show 8 + (5 + 11) + 146 ≤ 84000 by omega), by rw [E.2.2.2]; exact (show ce + 2 ≤ 601024 by omega), by rw [E.2.2.2]; exact (show sl + 12 ≤ 7293034 by omega)⟩ (Nat.le_of_ble_eq_true rfl) (fun vv A s7 hA2 hq => ?_) (fun ee A s7 hA2 hq => ?_)
  rotate_left
  · obtain ⟨Is7, Fs7, e8, hv, hrs7, hps7⟩ := hq; cases hv
  obtain ⟨Is7, Fs7, e8, hv, hrs7, hps7⟩ := hq
  cases hv
  rw [← hA2 0 (by decide)]
  rw [← hA2 179 (by decide)]
  rw [← hA2 517 (by decide)]
  have Gs7 := fm_ts F Fs7 (by decide) (by decide)
  have JRLx_s7 : RLx s7 := RLx_fm Fs7 (by decide) jR
  have ws7_70 : iI s7 70 = iI s 70 := fm_i Fs7 (by decide)
  have ws7_107 : iI s7 107 = iI s 107 := fm_i Fs7 (by decide)
  have ws7_12 : iI s7 12 = iI s 12 := fm_i Fs7 (by decide)
  have ws7_89 : iI s7 89 = iI s 89 := fm_i Fs7 (by decide)
  show WS k 1296 [(0, .ref q1), (1, .ref (A 0)), (2, .ref (A 179)), (3, .ref (A 517)), (4, .int (Int32.ofInt i))] [.int (Int32.ofInt e8)] (Wd A dT s7) (ce + 2) (sl + 12)
  refine z_store X (lv' := [(5, .int (Int32.ofInt e8)), (0, .ref q1), (1, .ref (A 0)), (2, .ref (A 179)), (3, .ref (A 517)), (4, .int (Int32.ofInt i))]) (show cdA 350 1296 = some (.istore 5, 2, 0, 0, 0) from rfl) (by decide) (fun _ h => h) ?_
  refine z_aload_n X (x := A 179) (show cdA 350 1298 = some (.aload_n 2, 1, 0, 0, 0) from rfl) (List.Mem.tail _ (List.Mem.tail _ (List.Mem.tail _ (List.Mem.head _)))) ?_
  refine z_aload_n X (x := q1) (show cdA 350 1299 = some (.aload_n 0, 1, 0, 0, 0) from rfl) (List.Mem.tail _ (List.Mem.head _)) ?_
  refine z_load X (x := i) (show cdA 350 1300 = some (.iload 4, 2, 0, 0, 0) from rfl) (List.Mem.tail _ (List.Mem.tail _ (List.Mem.tail _ (List.Mem.tail _ (List.Mem.tail _ (List.Mem.head _)))))) ?_
  refine z_const X (show cdA 350 1302 = some (.iconst 1, 1, 0, 0, 0) from rfl) ?_
  refine z_add X (show cdA 350 1303 = some (.iadd, 1, 0, 0, 0) from rfl) ?_
  refine z_sld X S hL (show cdA 350 1304 = some (.iaload, 1, 0, 0, 0) from rfl) (show 0 ≤ (i + 1) ∧ (i + 1) < (L : Int) by omega) ?_
  have sr9 : rng (sc xs (i + 1)) := sc_rng
  refine z_aload_n X (x := q1) (show cdA 350 1305 = some (.aload_n 0, 1, 0, 0, 0) from rfl) (List.Mem.tail _ (List.Mem.head _)) ?_
  refine z_load X (x := i) (show cdA 350 1306 = some (.iload 4, 2, 0, 0, 0) from rfl) (List.Mem.tail _ (List.Mem.tail _ (List.Mem.tail _ (List.Mem.tail _ (List.Mem.tail _ (List.Mem.head _)))))) ?_
  refine z_const X (show cdA 350 1308 = some (.iconst 2, 1, 0, 0, 0) from rfl) ?_
  refine z_add X (show cdA 350 1309 = some (.iadd, 1, 0, 0, 0) from rfl) ?_
  refine z_sld X S hL (show cdA 350 1310 = some (.iaload, 1, 0, 0, 0) from rfl) (show 0 ≤ (i + 2) ∧ (i + 2) < (L : Int) by omega) ?_
  have sr10 : rng (sc xs (i + 2)) := sc_rng
  refine z_callV X 179 (rm := rmN 274) (As := [.int (Int32.ofInt (sc xs (i + 1))), .int (Int32.ofInt (sc xs (i + 2)))]) (st := []) (show cdA 350 1311 = some (.invokevirtual 243, 3, 274, 0, 0) from rfl) rfl (by decide) rfl (by rw [E.1, E.2.1, E.2.2.1]; exact k_ill G Is7 (by first | exact ⟨sr9.1, sr9.2⟩ | omega) (by first | exact ⟨sr10.1, sr10.2⟩ | omega)) ⟨by rw [E.2.2.2]; exact (show 7 + 1 ≤ 2048 by omega), by rw [E.2.2.2]; exact (show 8 + (4 + 11) + 122 ≤ 84000 by omega), by rw [E.2.2.2]; exact (show (ce + 2) + 0 ≤ 601024 by omega), by rw [E.2.2.2]; exact (show (sl + 12) + 0 ≤ 7293034 by omega)⟩ (Nat.le_of_ble_eq_true rfl) (fun vv s11 hq => ?_) (fun ee s11 hq => ?_)
  rotate_left
  · obtain ⟨Is11, Fs11, e12, hv, hrs11, hps11⟩ := hq; cases hv
  obtain ⟨Is11, Fs11, e12, hv, hrs11, hps11⟩ := hq
  cases hv
  have Gs11 := fm_ts Gs7 Fs11 (by decide) (by decide)
  have JRLx_s11 : RLx s11 := RLx_fm Fs11 (by decide) JRLx_s7
  have ws11_70 : iI s11 70 = iI s7 70 := fm_i Fs11 (by decide)
  have ws11_107 : iI s11 107 = iI s7 107 := fm_i Fs11 (by decide)
  have ws11_12 : iI s11 12 = iI s7 12 := fm_i Fs11 (by decide)
  have ws11_89 : iI s11 89 = iI s7 89 := fm_i Fs11 (by decide)
  have wos11 : iO s11 = iO s7 := fm_o Fs11 (by decide)
  show WS k 1314 [(5, .int (Int32.ofInt e8)), (0, .ref q1), (1, .ref (A 0)), (2, .ref (A 179)), (3, .ref (A 517)), (4, .int (Int32.ofInt i))] [.int (Int32.ofInt e12)] (Wd A dT s11) (ce + 2) (sl + 12)
  refine z_store X (lv' := [(6, .int (Int32.ofInt e12)), (5, .int (Int32.ofInt e8)), (0, .ref q1), (1, .ref (A 0)), (2, .ref (A 179)), (3, .ref (A 517)), (4, .int (Int32.ofInt i))]) (show cdA 350 1314 = some (.istore 6, 2, 0, 0, 0) from rfl) (by decide) (fun _ h => h) ?_
  refine z_goto X (t := 1894) (show cdA 350 1316 = some (.goto 578, 3, 0, 0, 0) from rfl) (by decide) ?_
  refine w_widen (ce' := ce + 29) (sl' := sl + 222) (by omega) (by omega) ?_
  exact WS_lv (lv := [(0, .ref q1), (1, .ref (A 0)), (2, .ref (A 179)), (3, .ref (A 517)), (4, .int (Int32.ofInt i))]) (List.forall_mem_cons.mpr ⟨(List.Mem.tail _ (List.Mem.tail _ (List.Mem.head _))), (List.forall_mem_cons.mpr ⟨(List.Mem.tail _ (List.Mem.tail _ (List.Mem.tail _ (List.Mem.head _)))), (List.forall_mem_cons.mpr ⟨(List.Mem.tail _ (List.Mem.tail _ (List.Mem.tail _ (List.Mem.tail _ (List.Mem.head _))))), (List.forall_mem_cons.mpr ⟨(List.Mem.tail _ (List.Mem.tail _ (List.Mem.tail _ (List.Mem.tail _ (List.Mem.tail _ (List.Mem.head _)))))), (List.forall_mem_cons.mpr ⟨(List.Mem.tail _ (List.Mem.tail _ (List.Mem.tail _ (List.Mem.tail _ (List.Mem.tail _ (List.Mem.tail _ (List.Mem.head _))))))), (fun q h => absurd h List.not_mem_nil)⟩)⟩)⟩)⟩)⟩) (hk A _ Is11 JRLx_s11 (by omega) (by omega) (by omega))
theorem lc_31 (G : GX l s0 D tys a0 dT) (GR : RS0 s0) (SF : SF0 s0) (GT : TXs0 s0) {k : kx_T} (X : AX k 350 dT) (E : kL k = l ∧ kS0 k = s0 ∧ kD k = D ∧ kR k = room_1) {q1 L : Nat} {xs : Nat → Int32} (S : SX k q1 L xs) (hL : L ≤ 3072) (I : Bd s) (jR : RLx s) (p1 : iI s 89 = 1) (p2 : iI s 12 ≤ 8) (p3 : iI s 70 = iI s 107) {i : Int} (hi : 0 ≤ i ∧ i + 6 ≤ (L : Int)) {ce sl : Nat} (hce : ce + 29 ≤ 601024) (hsl : sl + 222 ≤ 7293034) (hk : ∀ (A : Nat → Nat) (t : PS), Bd t → RLx t → iI t 89 = 1 → iI t 12 ≤ 8 → iI t 70 = iI t 107 → WS k 1894 [(0, .ref q1), (1, .ref (A 0)), (2, .ref (A 179)), (3, .ref (A 517)), (4, .int (Int32.ofInt i))] [] (Wd A dT t) (ce + 29) (sl + 222)) : WS k 1319 [(0, .ref q1), (1, .ref (A 0)), (2, .ref (A 179)), (3, .ref (A 517)), (4, .int (Int32.ofInt i))] [] (Wd A dT s) ce sl := by
  have F : Fm [22, 23, 24, 34, 35, 38, 73, 104, 77, 75, 78, 79, 80, 81, 89] [33, 26, 27, 28, 29, 30, 31, 32, 20, 48, 47, 49, 50, 51, 53, 54, 55, 56, 1460, 161, 230, 202, 204, 205, 206, 207, 208, 209, 210, 211, 212, 213, 214, 215, 216, 217, 218, 219, 220, 221, 222, 223, 224, 225, 226, 227, 203, 395, 396, 397, 245, 246, 247, 248, 249, 250, 251, 252, 253, 254, 255, 256, 257, 258, 259, 260, 261, 262, 263, 264, 265, 266, 267, 268, 269, 270, 271, 272, 273, 274, 275, 276, 277, 278, 279, 280, 281, 282, 283, 284, 285, 286, 287, 288, 289, 290, 291, 292, 293, 294, 295, 296, 297, 298, 299, 300, 301, 302, 303, 304, 305, 306, 307, 308, 309, 310, 311, 312, 313, 314, 315, 316, 317, 318, 319, 320, 321, 322, 323, 324, 325, 326, 327, 328, 329, 330, 331, 332, 333, 334, 335, 336, 337, 338, 339, 340, 341, 342, 343, 344, 345, 346, 347, 348, 349, 350, 351, 352, 353, 354, 355, 356, 357, 358, 359, 360, 361, 362, 363, 364, 365, 366, 367, 368, 369, 370, 371, 372, 373, 374, 375, 376, 377, 378, 379, 380, 381, 382, 383, 384, 385, 386, 387, 388, 389, 390, 391, 392, 393, 394] s s := fm_rf _ _ s
  have b1 : (0 : Int) ≤ iI s 70 ∧ iI s 70 ≤ 40 := I.1 70
  have b2 : (0 : Int) ≤ iI s 107 ∧ iI s 107 ≤ 40 := I.1 107
  have b3 : (0 : Int) ≤ iI s 12 ∧ iI s 12 ≤ 9 := I.1 12
  have b4 : (1 : Int) ≤ iI s 89 ∧ iI s 89 ≤ 8 := I.1 89
  refine z_aload_n X (x := A 0) (show cdA 350 1319 = some (.aload_n 1, 1, 0, 0, 0) from rfl) (List.Mem.tail _ (List.Mem.head _)) ?_
  refine z_aload_n X (x := q1) (show cdA 350 1320 = some (.aload_n 0, 1, 0, 0, 0) from rfl) (List.Mem.head _) ?_
  refine z_load X (x := i) (show cdA 350 1321 = some (.iload 4, 2, 0, 0, 0) from rfl) (List.Mem.tail _ (List.Mem.tail _ (List.Mem.tail _ (List.Mem.tail _ (List.Mem.head _))))) ?_
  refine z_const X (show cdA 350 1323 = some (.iconst 1, 1, 0, 0, 0) from rfl) ?_
  refine z_add X (show cdA 350 1324 = some (.iadd, 1, 0, 0, 0) from rfl) ?_
  refine z_sld X S hL (show cdA 350 1325 = some (.iaload, 1, 0, 0, 0) from rfl) (show 0 ≤ (i + 1) ∧ (i + 1) < (L : Int) by omega) ?_
  have sr5 : rng (sc xs (i + 1)) := sc_rng
  refine z_aload_n X (x := q1) (show cdA 350 1326 = some (.aload_n 0, 1, 0, 0, 0) from rfl) (List.Mem.head _) ?_
  refine z_load X (x := i) (show cdA 350 1327 = some (.iload 4, 2, 0, 0, 0) from rfl) (List.Mem.tail _ (List.Mem.tail _ (List.Mem.tail _ (List.Mem.tail _ (List.Mem.head _))))) ?_
  refine z_const X (show cdA 350 1329 = some (.iconst 2, 1, 0, 0, 0) from rfl) ?_
  refine z_add X (show cdA 350 1330 = some (.iadd, 1, 0, 0, 0) from rfl) ?_
  refine z_sld X S hL (show cdA 350 1331 = some (.iaload, 1, 0, 0, 0) from rfl) (show 0 ≤ (i + 2) ∧ (i + 2) < (L : Int) by omega) ?_
  have sr6 : rng (sc xs (i + 2)) := sc_rng
  refine z_aload_n X (x := q1) (show cdA 350 1332 = some (.aload_n 0, 1, 0, 0, 0) from rfl) (List.Mem.head _) ?_
  refine z_load X (x := i) (show cdA 350 1333 = some (.iload 4, 2, 0, 0, 0) from rfl) (List.Mem.tail _ (List.Mem.tail _ (List.Mem.tail _ (List.Mem.tail _ (List.Mem.head _))))) ?_
  refine z_const X (show cdA 350 1335 = some (.iconst 3, 1, 0, 0, 0) from rfl) ?_
  refine z_add X (show cdA 350 1336 = some (.iadd, 1, 0, 0, 0) from rfl) ?_
  refine z_sld X S hL (show cdA 350 1337 = some (.iaload, 1, 0, 0, 0) from rfl) (show 0 ≤ (i + 3) ∧ (i + 3) < (L : Int) by omega) ?_
  have sr7 : rng (sc xs (i + 3)) := sc_rng
  refine z_aload_n X (x := A 517) (show cdA 350 1338 = some (.aload_n 3, 1, 0, 0, 0) from rfl) (List.Mem.tail _ (List.Mem.tail _ (List.Mem.tail _ (List.Mem.head _)))) ?_
  refine z_callL X (rm := rmN 340) (As := [.ref (A 0), .int (Int32.ofInt (sc xs (i + 1))), .int (Int32.ofInt (sc xs (i + 2))), .int (Int32.ofInt (sc xs (i + 3))), .ref (A 517)]) (st := []) (show cdA 350 1339 = some (.invokestatic 244, 3, 340, 6, 0) from rfl) (by decide) rfl (by rw [E.1, E.2.1, E.2.2.1]; exact lw_rota G I (by omega) (by omega) (by omega) (by omega)) ⟨by rw [E.2.2.2]; exact (show 13 + 1 ≤ 2048 by omega), by rw [E.2.2.2]; exact (show 8 + (6 + 11) + 274 ≤ 84000 by omega), by rw [E.2.2.2]; exact (show ce + 3 ≤ 601024 by omega), by rw [E.2.2.2]; exact (show sl + 18 ≤ 7293034 by omega)⟩ (Nat.le_of_ble_eq_true rfl) (fun vv A s8 hA2 hq => ?_) (fun ee A s8 hA2 hq => ?_)
  rotate_left
  · obtain ⟨Is8, Fs8, e9, hv, hrs8, hps8⟩ := hq; cases hv
  obtain ⟨Is8, Fs8, e9, hv, hrs8, hps8⟩ := hq
  cases hv
  rw [← hA2 0 (by decide)]
  rw [← hA2 179 (by decide)]
  rw [← hA2 517 (by decide)]
  have Gs8 := fm_ts F Fs8 (by decide) (by decide)
  have JRLx_s8 : RLx s8 := RLx_fm Fs8 (by decide) jR
  have ws8_70 : iI s8 70 = iI s 70 := fm_i Fs8 (by decide)
  have ws8_107 : iI s8 107 = iI s 107 := fm_i Fs8 (by decide)
  have ws8_12 : iI s8 12 = iI s 12 := fm_i Fs8 (by decide)
  have ws8_89 : iI s8 89 = iI s 89 := fm_i Fs8 (by decide)
  show WS k 1342 [(0, .ref q1), (1, .ref (A 0)), (2, .ref (A 179)), (3, .ref (A 517)), (4, .int (Int32.ofInt i))] [.int (Int32.ofInt e9)] (Wd A dT s8) (ce + 3) (sl + 18)
  refine z_store X (lv' := [(5, .int (Int32.ofInt e9)), (0, .ref q1), (1, .ref (A 0)), (2, .ref (A 179)), (3, .ref (A 517)), (4, .int (Int32.ofInt i))]) (show cdA 350 1342 = some (.istore 5, 2, 0, 0, 0) from rfl) (by decide) (fun _ h => h) ?_
  refine z_aload_n X (x := A 179) (show cdA 350 1344 = some (.aload_n 2, 1, 0, 0, 0) from rfl) (List.Mem.tail _ (List.Mem.tail _ (List.Mem.tail _ (List.Mem.head _)))) ?_
  refine z_aload_n X (x := q1) (show cdA 350 1345 = some (.aload_n 0, 1, 0, 0, 0) from rfl) (List.Mem.tail _ (List.Mem.head _)) ?_
  refine z_load X (x := i) (show cdA 350 1346 = some (.iload 4, 2, 0, 0, 0) from rfl) (List.Mem.tail _ (List.Mem.tail _ (List.Mem.tail _ (List.Mem.tail _ (List.Mem.tail _ (List.Mem.head _)))))) ?_
  refine z_const X (show cdA 350 1348 = some (.iconst 1, 1, 0, 0, 0) from rfl) ?_
  refine z_add X (show cdA 350 1349 = some (.iadd, 1, 0, 0, 0) from rfl) ?_
  refine z_sld X S hL (show cdA 350 1350 = some (.iaload, 1, 0, 0, 0) from rfl) (show 0 ≤ (i + 1) ∧ (i + 1) < (L : Int) by omega) ?_
  have sr10 : rng (sc xs (i + 1)) := sc_rng
  refine z_aload_n X (x := q1) (show cdA 350 1351 = some (.aload_n 0, 1, 0, 0, 0) from rfl) (List.Mem.tail _ (List.Mem.head _)) ?_
  refine z_load X (x := i) (show cdA 350 1352 = some (.iload 4, 2, 0, 0, 0) from rfl) (List.Mem.tail _ (List.Mem.tail _ (List.Mem.tail _ (List.Mem.tail _ (List.Mem.tail _ (List.Mem.head _)))))) ?_
  refine z_const X (show cdA 350 1354 = some (.iconst 2, 1, 0, 0, 0) from rfl) ?_
  refine z_add X (show cdA 350 1355 = some (.iadd, 1, 0, 0, 0) from rfl) ?_
  refine z_sld X S hL (show cdA 350 1356 = some (.iaload, 1, 0, 0, 0) from rfl) (show 0 ≤ (i + 2) ∧ (i + 2) < (L : Int) by omega) ?_
  have sr11 : rng (sc xs (i + 2)) := sc_rng
  refine z_aload_n X (x := q1) (show cdA 350 1357 = some (.aload_n 0, 1, 0, 0, 0) from rfl) (List.Mem.tail _ (List.Mem.head _)) ?_
  refine z_load X (x := i) (show cdA 350 1358 = some (.iload 4, 2, 0, 0, 0) from rfl) (List.Mem.tail _ (List.Mem.tail _ (List.Mem.tail _ (List.Mem.tail _ (List.Mem.tail _ (List.Mem.head _)))))) ?_
  refine z_const X (show cdA 350 1360 = some (.iconst 3, 1, 0, 0, 0) from rfl) ?_
  refine z_add X (show cdA 350 1361 = some (.iadd, 1, 0, 0, 0) from rfl) ?_
  refine z_sld X S hL (show cdA 350 1362 = some (.iaload, 1, 0, 0, 0) from rfl) (show 0 ≤ (i + 3) ∧ (i + 3) < (L : Int) by omega) ?_
  have sr12 : rng (sc xs (i + 3)) := sc_rng
  refine z_callV X 179 (rm := rmN 276) (As := [.int (Int32.ofInt (sc xs (i + 1))), .int (Int32.ofInt (sc xs (i + 2))), .int (Int32.ofInt (sc xs (i + 3)))]) (st := []) (show cdA 350 1363 = some (.invokevirtual 246, 3, 276, 0, 0) from rfl) rfl (by decide) rfl (by rw [E.1, E.2.1, E.2.2.1]; exact k_rota G Is8 JRLx_s8 (by first | exact ⟨sr10.1, sr10.2⟩ | omega) (by first | exact ⟨sr11.1, sr11.2⟩ | omega) (by first | exact ⟨sr12.1, sr12.2⟩ | omega) (by omega)) ⟨by rw [E.2.2.2]; exact (show 64 + 1 ≤ 2048 by omega), by rw [E.2.2.2]; exact (show 8 + (4 + 11) + 2742 ≤ 84000 by omega), by rw [E.2.2.2]; exact (show (ce + 3) + 3 ≤ 601024 by omega), by rw [E.2.2.2]; exact (show (sl + 18) + 24 ≤ 7293034 by omega)⟩ (Nat.le_of_ble_eq_true rfl) (fun vv s13 hq => ?_) (fun ee s13 hq => ?_)
  rotate_left
  · obtain ⟨Is13, Fs13, JRLx_s13, e14, hv, hrs13, hps13⟩ := hq; cases hv
  obtain ⟨Is13, Fs13, JRLx_s13, e14, hv, hrs13, hps13⟩ := hq
  cases hv
  have Gs13 := fm_ts Gs8 Fs13 (by decide) (by decide +kernel)
  have JRLx_s13 : RLx s13 := RLx_fm Fs13 (by decide) JRLx_s8
  have ws13_70 : iI s13 70 = iI s8 70 := fm_i Fs13 (by decide)
  have ws13_107 : iI s13 107 = iI s8 107 := fm_i Fs13 (by decide)
  have ws13_12 : iI s13 12 = iI s8 12 := fm_i Fs13 (by decide)
  have b15 : (1 : Int) ≤ iI s13 89 ∧ iI s13 89 ≤ 8 := Is13.1 89
  have wos13 : iO s13 = iO s8 := fm_o Fs13 (by decide)
  show WS k 1366 [(5, .int (Int32.ofInt e9)), (0, .ref q1), (1, .ref (A 0)), (2, .ref (A 179)), (3, .ref (A 517)), (4, .int (Int32.ofInt i))] [.int (Int32.ofInt e14)] (Wd A dT s13) ((ce + 3) + 3) ((sl + 18) + 24)
  refine z_store X (lv' := [(6, .int (Int32.ofInt e14)), (5, .int (Int32.ofInt e9)), (0, .ref q1), (1, .ref (A 0)), (2, .ref (A 179)), (3, .ref (A 517)), (4, .int (Int32.ofInt i))]) (show cdA 350 1366 = some (.istore 6, 2, 0, 0, 0) from rfl) (by decide) (fun _ h => h) ?_
  refine z_goto X (t := 1894) (show cdA 350 1368 = some (.goto 526, 3, 0, 0, 0) from rfl) (by decide) ?_
  refine w_widen (ce' := ce + 29) (sl' := sl + 222) (by omega) (by omega) ?_
  exact WS_lv (lv := [(0, .ref q1), (1, .ref (A 0)), (2, .ref (A 179)), (3, .ref (A 517)), (4, .int (Int32.ofInt i))]) (List.forall_mem_cons.mpr ⟨(List.Mem.tail _ (List.Mem.tail _ (List.Mem.head _))), (List.forall_mem_cons.mpr ⟨(List.Mem.tail _ (List.Mem.tail _ (List.Mem.tail _ (List.Mem.head _)))), (List.forall_mem_cons.mpr ⟨(List.Mem.tail _ (List.Mem.tail _ (List.Mem.tail _ (List.Mem.tail _ (List.Mem.head _))))), (List.forall_mem_cons.mpr ⟨(List.Mem.tail _ (List.Mem.tail _ (List.Mem.tail _ (List.Mem.tail _ (List.Mem.tail _ (List.Mem.head _)))))), (List.forall_mem_cons.mpr ⟨(List.Mem.tail _ (List.Mem.tail _ (List.Mem.tail _ (List.Mem.tail _ (List.Mem.tail _ (List.Mem.tail _ (List.Mem.head _))))))), (fun q h => absurd h List.not_mem_nil)⟩)⟩)⟩)⟩)⟩) (hk A _ Is13 JRLx_s13 (by omega) (by omega) (by omega))
theorem lc_32 (G : GX l s0 D tys a0 dT) (GR : RS0 s0) (SF : SF0 s0) (GT : TXs0 s0) {k : kx_T} (X : AX k 350 dT) (E : kL k = l ∧ kS0 k = s0 ∧ kD k = D ∧ kR k = room_1) {q1 L : Nat} {xs : Nat → Int32} (S : SX k q1 L xs) (hL : L ≤ 3072) (I : Bd s) (jR : RLx s) (p1 : iI s 89 = 1) (p2 : iI s 12 ≤ 8) (p3 : iI s 70 = iI s 107) {i : Int} (hi : 0 ≤ i ∧ i + 6 ≤ (L : Int)) {ce sl : Nat} (hce : ce + 29 ≤ 601024) (hsl : sl + 222 ≤ 7293034) (hk : ∀ (A : Nat → Nat) (t : PS), Bd t → RLx t → iI t 89 = 1 → iI t 12 ≤ 8 → iI t 70 = iI t 107 → WS k 1894 [(0, .ref q1), (1, .ref (A 0)), (2, .ref (A 179)), (3, .ref (A 517)), (4, .int (Int32.ofInt i))] [] (Wd A dT t) (ce + 29) (sl + 222)) : WS k 1371 [(0, .ref q1), (1, .ref (A 0)), (2, .ref (A 179)), (3, .ref (A 517)), (4, .int (Int32.ofInt i))] [] (Wd A dT s) ce sl := by
  have F : Fm [22, 23, 24, 34, 35, 38, 73, 104, 77, 75, 78, 79, 80, 81, 89] [33, 26, 27, 28, 29, 30, 31, 32, 20, 48, 47, 49, 50, 51, 53, 54, 55, 56, 1460, 161, 230, 202, 204, 205, 206, 207, 208, 209, 210, 211, 212, 213, 214, 215, 216, 217, 218, 219, 220, 221, 222, 223, 224, 225, 226, 227, 203, 395, 396, 397, 245, 246, 247, 248, 249, 250, 251, 252, 253, 254, 255, 256, 257, 258, 259, 260, 261, 262, 263, 264, 265, 266, 267, 268, 269, 270, 271, 272, 273, 274, 275, 276, 277, 278, 279, 280, 281, 282, 283, 284, 285, 286, 287, 288, 289, 290, 291, 292, 293, 294, 295, 296, 297, 298, 299, 300, 301, 302, 303, 304, 305, 306, 307, 308, 309, 310, 311, 312, 313, 314, 315, 316, 317, 318, 319, 320, 321, 322, 323, 324, 325, 326, 327, 328, 329, 330, 331, 332, 333, 334, 335, 336, 337, 338, 339, 340, 341, 342, 343, 344, 345, 346, 347, 348, 349, 350, 351, 352, 353, 354, 355, 356, 357, 358, 359, 360, 361, 362, 363, 364, 365, 366, 367, 368, 369, 370, 371, 372, 373, 374, 375, 376, 377, 378, 379, 380, 381, 382, 383, 384, 385, 386, 387, 388, 389, 390, 391, 392, 393, 394] s s := fm_rf _ _ s
  have b1 : (0 : Int) ≤ iI s 70 ∧ iI s 70 ≤ 40 := I.1 70
  have b2 : (0 : Int) ≤ iI s 107 ∧ iI s 107 ≤ 40 := I.1 107
  have b3 : (0 : Int) ≤ iI s 12 ∧ iI s 12 ≤ 9 := I.1 12
  have b4 : (1 : Int) ≤ iI s 89 ∧ iI s 89 ≤ 8 := I.1 89
  refine z_aload_n X (x := A 0) (show cdA 350 1371 = some (.aload_n 1, 1, 0, 0, 0) from rfl) (List.Mem.tail _ (List.Mem.head _)) ?_
  refine z_aload_n X (x := q1) (show cdA 350 1372 = some (.aload_n 0, 1, 0, 0, 0) from rfl) (List.Mem.head _) ?_
  refine z_load X (x := i) (show cdA 350 1373 = some (.iload 4, 2, 0, 0, 0) from rfl) (List.Mem.tail _ (List.Mem.tail _ (List.Mem.tail _ (List.Mem.tail _ (List.Mem.head _))))) ?_
  refine z_const X (show cdA 350 1375 = some (.iconst 1, 1, 0, 0, 0) from rfl) ?_
  refine z_add X (show cdA 350 1376 = some (.iadd, 1, 0, 0, 0) from rfl) ?_
  refine z_sld X S hL (show cdA 350 1377 = some (.iaload, 1, 0, 0, 0) from rfl) (show 0 ≤ (i + 1) ∧ (i + 1) < (L : Int) by omega) ?_
  have sr5 : rng (sc xs (i + 1)) := sc_rng
  refine z_aload_n X (x := q1) (show cdA 350 1378 = some (.aload_n 0, 1, 0, 0, 0) from rfl) (List.Mem.head _) ?_
  refine z_load X (x := i) (show cdA 350 1379 = some (.iload 4, 2, 0, 0, 0) from rfl) (List.Mem.tail _ (List.Mem.tail _ (List.Mem.tail _ (List.Mem.tail _ (List.Mem.head _))))) ?_
  refine z_const X (show cdA 350 1381 = some (.iconst 2, 1, 0, 0, 0) from rfl) ?_
  refine z_add X (show cdA 350 1382 = some (.iadd, 1, 0, 0, 0) from rfl) ?_
  refine z_sld X S hL (show cdA 350 1383 = some (.iaload, 1, 0, 0, 0) from rfl) (show 0 ≤ (i + 2) ∧ (i + 2) < (L : Int) by omega) ?_
  have sr6 : rng (sc xs (i + 2)) := sc_rng
  refine z_aload_n X (x := A 517) (show cdA 350 1384 = some (.aload_n 3, 1, 0, 0, 0) from rfl) (List.Mem.tail _ (List.Mem.tail _ (List.Mem.tail _ (List.Mem.head _)))) ?_
  refine z_callL X (rm := rmN 341) (As := [.ref (A 0), .int (Int32.ofInt (sc xs (i + 1))), .int (Int32.ofInt (sc xs (i + 2))), .ref (A 517)]) (st := []) (show cdA 350 1385 = some (.invokestatic 247, 3, 341, 6, 0) from rfl) (by decide) rfl (by rw [E.1, E.2.1, E.2.2.1]; exact lw_lacks G I (by omega) (by omega) (by omega)) ⟨by rw [E.2.2.2]; exact (show 13 + 1 ≤ 2048 by omega), by rw [E.2.2.2]; exact (show 8 + (5 + 11) + 273 ≤ 84000 by omega), by rw [E.2.2.2]; exact (show ce + 2 ≤ 601024 by omega), by rw [E.2.2.2]; exact (show sl + 12 ≤ 7293034 by omega)⟩ (Nat.le_of_ble_eq_true rfl) (fun vv A s7 hA2 hq => ?_) (fun ee A s7 hA2 hq => ?_)
  rotate_left
  · obtain ⟨Is7, Fs7, e8, hv, hrs7, hps7⟩ := hq; cases hv
  obtain ⟨Is7, Fs7, e8, hv, hrs7, hps7⟩ := hq
  cases hv
  rw [← hA2 0 (by decide)]
  rw [← hA2 179 (by decide)]
  rw [← hA2 517 (by decide)]
  have Gs7 := fm_ts F Fs7 (by decide) (by decide)
  have JRLx_s7 : RLx s7 := RLx_fm Fs7 (by decide) jR
  have ws7_70 : iI s7 70 = iI s 70 := fm_i Fs7 (by decide)
  have ws7_107 : iI s7 107 = iI s 107 := fm_i Fs7 (by decide)
  have ws7_12 : iI s7 12 = iI s 12 := fm_i Fs7 (by decide)
  have ws7_89 : iI s7 89 = iI s 89 := fm_i Fs7 (by decide)
  show WS k 1388 [(0, .ref q1), (1, .ref (A 0)), (2, .ref (A 179)), (3, .ref (A 517)), (4, .int (Int32.ofInt i))] [.int (Int32.ofInt e8)] (Wd A dT s7) (ce + 2) (sl + 12)
  refine z_store X (lv' := [(5, .int (Int32.ofInt e8)), (0, .ref q1), (1, .ref (A 0)), (2, .ref (A 179)), (3, .ref (A 517)), (4, .int (Int32.ofInt i))]) (show cdA 350 1388 = some (.istore 5, 2, 0, 0, 0) from rfl) (by decide) (fun _ h => h) ?_
  refine z_aload_n X (x := A 179) (show cdA 350 1390 = some (.aload_n 2, 1, 0, 0, 0) from rfl) (List.Mem.tail _ (List.Mem.tail _ (List.Mem.tail _ (List.Mem.head _)))) ?_
  refine z_aload_n X (x := q1) (show cdA 350 1391 = some (.aload_n 0, 1, 0, 0, 0) from rfl) (List.Mem.tail _ (List.Mem.head _)) ?_
  refine z_load X (x := i) (show cdA 350 1392 = some (.iload 4, 2, 0, 0, 0) from rfl) (List.Mem.tail _ (List.Mem.tail _ (List.Mem.tail _ (List.Mem.tail _ (List.Mem.tail _ (List.Mem.head _)))))) ?_
  refine z_const X (show cdA 350 1394 = some (.iconst 1, 1, 0, 0, 0) from rfl) ?_
  refine z_add X (show cdA 350 1395 = some (.iadd, 1, 0, 0, 0) from rfl) ?_
  refine z_sld X S hL (show cdA 350 1396 = some (.iaload, 1, 0, 0, 0) from rfl) (show 0 ≤ (i + 1) ∧ (i + 1) < (L : Int) by omega) ?_
  have sr9 : rng (sc xs (i + 1)) := sc_rng
  refine z_aload_n X (x := q1) (show cdA 350 1397 = some (.aload_n 0, 1, 0, 0, 0) from rfl) (List.Mem.tail _ (List.Mem.head _)) ?_
  refine z_load X (x := i) (show cdA 350 1398 = some (.iload 4, 2, 0, 0, 0) from rfl) (List.Mem.tail _ (List.Mem.tail _ (List.Mem.tail _ (List.Mem.tail _ (List.Mem.tail _ (List.Mem.head _)))))) ?_
  refine z_const X (show cdA 350 1400 = some (.iconst 2, 1, 0, 0, 0) from rfl) ?_
  refine z_add X (show cdA 350 1401 = some (.iadd, 1, 0, 0, 0) from rfl) ?_
  refine z_sld X S hL (show cdA 350 1402 = some (.iaload, 1, 0, 0, 0) from rfl) (show 0 ≤ (i + 2) ∧ (i + 2) < (L : Int) by omega) ?_
  have sr10 : rng (sc xs (i + 2)) := sc_rng
  refine z_callV X 179 (rm := rmN 277) (As := [.int (Int32.ofInt (sc xs (i + 1))), .int (Int32.ofInt (sc xs (i + 2)))]) (st := []) (show cdA 350 1403 = some (.invokevirtual 249, 3, 277, 0, 0) from rfl) rfl (by decide) rfl (by rw [E.1, E.2.1, E.2.2.1]; exact k_lacks G Is7 JRLx_s7 (by first | exact ⟨sr9.1, sr9.2⟩ | omega) (by first | exact ⟨sr10.1, sr10.2⟩ | omega) (by omega)) ⟨by rw [E.2.2.2]; exact (show 64 + 1 ≤ 2048 by omega), by rw [E.2.2.2]; exact (show 8 + (3 + 11) + 2742 ≤ 84000 by omega), by rw [E.2.2.2]; exact (show (ce + 2) + 3 ≤ 601024 by omega), by rw [E.2.2.2]; exact (show (sl + 12) + 24 ≤ 7293034 by omega)⟩ (Nat.le_of_ble_eq_true rfl) (fun vv s11 hq => ?_) (fun ee s11 hq => ?_)
  rotate_left
  · obtain ⟨Is11, Fs11, JRLx_s11, e12, hv, hrs11, hps11⟩ := hq; cases hv
  obtain ⟨Is11, Fs11, JRLx_s11, e12, hv, hrs11, hps11⟩ := hq
  cases hv
  have Gs11 := fm_ts Gs7 Fs11 (by decide) (by decide +kernel)
  have JRLx_s11 : RLx s11 := RLx_fm Fs11 (by decide) JRLx_s7
  have ws11_70 : iI s11 70 = iI s7 70 := fm_i Fs11 (by decide)
  have ws11_107 : iI s11 107 = iI s7 107 := fm_i Fs11 (by decide)
  have ws11_12 : iI s11 12 = iI s7 12 := fm_i Fs11 (by decide)
  have b13 : (1 : Int) ≤ iI s11 89 ∧ iI s11 89 ≤ 8 := Is11.1 89
  have wos11 : iO s11 = iO s7 := fm_o Fs11 (by decide)
  show WS k 1406 [(5, .int (Int32.ofInt e8)), (0, .ref q1), (1, .ref (A 0)), (2, .ref (A 179)), (3, .ref (A 517)), (4, .int (Int32.ofInt i))] [.int (Int32.ofInt e12)] (Wd A dT s11) ((ce + 2) + 3) ((sl + 12) + 24)
  refine z_store X (lv' := [(6, .int (Int32.ofInt e12)), (5, .int (Int32.ofInt e8)), (0, .ref q1), (1, .ref (A 0)), (2, .ref (A 179)), (3, .ref (A 517)), (4, .int (Int32.ofInt i))]) (show cdA 350 1406 = some (.istore 6, 2, 0, 0, 0) from rfl) (by decide) (fun _ h => h) ?_
  refine z_goto X (t := 1894) (show cdA 350 1408 = some (.goto 486, 3, 0, 0, 0) from rfl) (by decide) ?_
  refine w_widen (ce' := ce + 29) (sl' := sl + 222) (by omega) (by omega) ?_
  exact WS_lv (lv := [(0, .ref q1), (1, .ref (A 0)), (2, .ref (A 179)), (3, .ref (A 517)), (4, .int (Int32.ofInt i))]) (List.forall_mem_cons.mpr ⟨(List.Mem.tail _ (List.Mem.tail _ (List.Mem.head _))), (List.forall_mem_cons.mpr ⟨(List.Mem.tail _ (List.Mem.tail _ (List.Mem.tail _ (List.Mem.head _)))), (List.forall_mem_cons.mpr ⟨(List.Mem.tail _ (List.Mem.tail _ (List.Mem.tail _ (List.Mem.tail _ (List.Mem.head _))))), (List.forall_mem_cons.mpr ⟨(List.Mem.tail _ (List.Mem.tail _ (List.Mem.tail _ (List.Mem.tail _ (List.Mem.tail _ (List.Mem.head _)))))), (List.forall_mem_cons.mpr ⟨(List.Mem.tail _ (List.Mem.tail _ (List.Mem.tail _ (List.Mem.tail _ (List.Mem.tail _ (List.Mem.tail _ (List.Mem.head _))))))), (fun q h => absurd h List.not_mem_nil)⟩)⟩)⟩)⟩)⟩) (hk A _ Is11 JRLx_s11 (by omega) (by omega) (by omega))
theorem lc_33 (G : GX l s0 D tys a0 dT) (GR : RS0 s0) (SF : SF0 s0) (GT : TXs0 s0) {k : kx_T} (X : AX k 350 dT) (E : kL k = l ∧ kS0 k = s0 ∧ kD k = D ∧ kR k = room_1) {q1 L : Nat} {xs : Nat → Int32} (S : SX k q1 L xs) (hL : L ≤ 3072) (I : Bd s) (jR : RLx s) (p1 : iI s 89 = 1) (p2 : iI s 12 ≤ 8) (p3 : iI s 70 = iI s 107) {i : Int} (hi : 0 ≤ i ∧ i + 6 ≤ (L : Int)) {ce sl : Nat} (hce : ce + 29 ≤ 601024) (hsl : sl + 222 ≤ 7293034) (hk : ∀ (A : Nat → Nat) (t : PS), Bd t → RLx t → iI t 89 = 1 → iI t 12 ≤ 8 → iI t 70 = iI t 107 → WS k 1894 [(0, .ref q1), (1, .ref (A 0)), (2, .ref (A 179)), (3, .ref (A 517)), (4, .int (Int32.ofInt i))] [] (Wd A dT t) (ce + 29) (sl + 222)) : WS k 1411 [(0, .ref q1), (1, .ref (A 0)), (2, .ref (A 179)), (3, .ref (A 517)), (4, .int (Int32.ofInt i))] [] (Wd A dT s) ce sl := by
  have F : Fm [22, 23, 24, 34, 35, 38, 73, 104, 77, 75, 78, 79, 80, 81, 89] [33, 26, 27, 28, 29, 30, 31, 32, 20, 48, 47, 49, 50, 51, 53, 54, 55, 56, 1460, 161, 230, 202, 204, 205, 206, 207, 208, 209, 210, 211, 212, 213, 214, 215, 216, 217, 218, 219, 220, 221, 222, 223, 224, 225, 226, 227, 203, 395, 396, 397, 245, 246, 247, 248, 249, 250, 251, 252, 253, 254, 255, 256, 257, 258, 259, 260, 261, 262, 263, 264, 265, 266, 267, 268, 269, 270, 271, 272, 273, 274, 275, 276, 277, 278, 279, 280, 281, 282, 283, 284, 285, 286, 287, 288, 289, 290, 291, 292, 293, 294, 295, 296, 297, 298, 299, 300, 301, 302, 303, 304, 305, 306, 307, 308, 309, 310, 311, 312, 313, 314, 315, 316, 317, 318, 319, 320, 321, 322, 323, 324, 325, 326, 327, 328, 329, 330, 331, 332, 333, 334, 335, 336, 337, 338, 339, 340, 341, 342, 343, 344, 345, 346, 347, 348, 349, 350, 351, 352, 353, 354, 355, 356, 357, 358, 359, 360, 361, 362, 363, 364, 365, 366, 367, 368, 369, 370, 371, 372, 373, 374, 375, 376, 377, 378, 379, 380, 381, 382, 383, 384, 385, 386, 387, 388, 389, 390, 391, 392, 393, 394] s s := fm_rf _ _ s
  have b1 : (0 : Int) ≤ iI s 70 ∧ iI s 70 ≤ 40 := I.1 70
  have b2 : (0 : Int) ≤ iI s 107 ∧ iI s 107 ≤ 40 := I.1 107
  have b3 : (0 : Int) ≤ iI s 12 ∧ iI s 12 ≤ 9 := I.1 12
  have b4 : (1 : Int) ≤ iI s 89 ∧ iI s 89 ≤ 8 := I.1 89
  refine z_aload_n X (x := A 0) (show cdA 350 1411 = some (.aload_n 1, 1, 0, 0, 0) from rfl) (List.Mem.tail _ (List.Mem.head _)) ?_
  refine z_aload_n X (x := q1) (show cdA 350 1412 = some (.aload_n 0, 1, 0, 0, 0) from rfl) (List.Mem.head _) ?_
  refine z_load X (x := i) (show cdA 350 1413 = some (.iload 4, 2, 0, 0, 0) from rfl) (List.Mem.tail _ (List.Mem.tail _ (List.Mem.tail _ (List.Mem.tail _ (List.Mem.head _))))) ?_
  refine z_const X (show cdA 350 1415 = some (.iconst 1, 1, 0, 0, 0) from rfl) ?_
  refine z_add X (show cdA 350 1416 = some (.iadd, 1, 0, 0, 0) from rfl) ?_
  refine z_sld X S hL (show cdA 350 1417 = some (.iaload, 1, 0, 0, 0) from rfl) (show 0 ≤ (i + 1) ∧ (i + 1) < (L : Int) by omega) ?_
  have sr5 : rng (sc xs (i + 1)) := sc_rng
  refine z_aload_n X (x := A 517) (show cdA 350 1418 = some (.aload_n 3, 1, 0, 0, 0) from rfl) (List.Mem.tail _ (List.Mem.tail _ (List.Mem.tail _ (List.Mem.head _)))) ?_
  refine z_callL X (rm := rmN 342) (As := [.ref (A 0), .int (Int32.ofInt (sc xs (i + 1))), .ref (A 517)]) (st := []) (show cdA 350 1419 = some (.invokestatic 250, 3, 342, 6, 0) from rfl) (by decide) rfl (by rw [E.1, E.2.1, E.2.2.1]; exact lw_enough G I (by omega) (by omega)) ⟨by rw [E.2.2.2]; exact (show 13 + 1 ≤ 2048 by omega), by rw [E.2.2.2]; exact (show 8 + (4 + 11) + 273 ≤ 84000 by omega), by rw [E.2.2.2]; exact (show ce + 1 ≤ 601024 by omega), by rw [E.2.2.2]; exact (show sl + 6 ≤ 7293034 by omega)⟩ (Nat.le_of_ble_eq_true rfl) (fun vv A s6 hA2 hq => ?_) (fun ee A s6 hA2 hq => ?_)
  rotate_left
  · obtain ⟨Is6, Fs6, e7, hv, hrs6, hps6⟩ := hq; cases hv
  obtain ⟨Is6, Fs6, e7, hv, hrs6, hps6⟩ := hq
  cases hv
  rw [← hA2 0 (by decide)]
  rw [← hA2 179 (by decide)]
  rw [← hA2 517 (by decide)]
  have Gs6 := fm_ts F Fs6 (by decide) (by decide)
  have JRLx_s6 : RLx s6 := RLx_fm Fs6 (by decide) jR
  have ws6_70 : iI s6 70 = iI s 70 := fm_i Fs6 (by decide)
  have ws6_107 : iI s6 107 = iI s 107 := fm_i Fs6 (by decide)
  have ws6_12 : iI s6 12 = iI s 12 := fm_i Fs6 (by decide)
  have ws6_89 : iI s6 89 = iI s 89 := fm_i Fs6 (by decide)
  show WS k 1422 [(0, .ref q1), (1, .ref (A 0)), (2, .ref (A 179)), (3, .ref (A 517)), (4, .int (Int32.ofInt i))] [.int (Int32.ofInt e7)] (Wd A dT s6) (ce + 1) (sl + 6)
  refine z_store X (lv' := [(5, .int (Int32.ofInt e7)), (0, .ref q1), (1, .ref (A 0)), (2, .ref (A 179)), (3, .ref (A 517)), (4, .int (Int32.ofInt i))]) (show cdA 350 1422 = some (.istore 5, 2, 0, 0, 0) from rfl) (by decide) (fun _ h => h) ?_
  refine z_aload_n X (x := A 179) (show cdA 350 1424 = some (.aload_n 2, 1, 0, 0, 0) from rfl) (List.Mem.tail _ (List.Mem.tail _ (List.Mem.tail _ (List.Mem.head _)))) ?_
  refine z_aload_n X (x := q1) (show cdA 350 1425 = some (.aload_n 0, 1, 0, 0, 0) from rfl) (List.Mem.tail _ (List.Mem.head _)) ?_
  refine z_load X (x := i) (show cdA 350 1426 = some (.iload 4, 2, 0, 0, 0) from rfl) (List.Mem.tail _ (List.Mem.tail _ (List.Mem.tail _ (List.Mem.tail _ (List.Mem.tail _ (List.Mem.head _)))))) ?_
  refine z_const X (show cdA 350 1428 = some (.iconst 1, 1, 0, 0, 0) from rfl) ?_
  refine z_add X (show cdA 350 1429 = some (.iadd, 1, 0, 0, 0) from rfl) ?_
  refine z_sld X S hL (show cdA 350 1430 = some (.iaload, 1, 0, 0, 0) from rfl) (show 0 ≤ (i + 1) ∧ (i + 1) < (L : Int) by omega) ?_
  have sr8 : rng (sc xs (i + 1)) := sc_rng
  refine z_callV X 179 (rm := rmN 278) (As := [.int (Int32.ofInt (sc xs (i + 1)))]) (st := []) (show cdA 350 1431 = some (.invokevirtual 252, 3, 278, 0, 0) from rfl) rfl (by decide) rfl (by rw [E.1, E.2.1, E.2.2.1]; exact k_enough G Is6 JRLx_s6 (by first | exact ⟨sr8.1, sr8.2⟩ | omega) (by omega)) ⟨by rw [E.2.2.2]; exact (show 64 + 1 ≤ 2048 by omega), by rw [E.2.2.2]; exact (show 8 + (3 + 11) + 2742 ≤ 84000 by omega), by rw [E.2.2.2]; exact (show (ce + 1) + 24 ≤ 601024 by omega), by rw [E.2.2.2]; exact (show (sl + 6) + 192 ≤ 7293034 by omega)⟩ (Nat.le_of_ble_eq_true rfl) (fun vv s9 hq => ?_) (fun ee s9 hq => ?_)
  rotate_left
  · obtain ⟨Is9, Fs9, JRLx_s9, e10, hv, hrs9, hps9⟩ := hq; cases hv
  obtain ⟨Is9, Fs9, JRLx_s9, e10, hv, hrs9, hps9⟩ := hq
  cases hv
  have Gs9 := fm_ts Gs6 Fs9 (by decide) (by decide +kernel)
  have JRLx_s9 : RLx s9 := RLx_fm Fs9 (by decide) JRLx_s6
  have ws9_70 : iI s9 70 = iI s6 70 := fm_i Fs9 (by decide)
  have ws9_107 : iI s9 107 = iI s6 107 := fm_i Fs9 (by decide)
  have ws9_12 : iI s9 12 = iI s6 12 := fm_i Fs9 (by decide)
  have b11 : (1 : Int) ≤ iI s9 89 ∧ iI s9 89 ≤ 8 := Is9.1 89
  have wos9 : iO s9 = iO s6 := fm_o Fs9 (by decide)
  show WS k 1434 [(5, .int (Int32.ofInt e7)), (0, .ref q1), (1, .ref (A 0)), (2, .ref (A 179)), (3, .ref (A 517)), (4, .int (Int32.ofInt i))] [.int (Int32.ofInt e10)] (Wd A dT s9) ((ce + 1) + 24) ((sl + 6) + 192)
  refine z_store X (lv' := [(6, .int (Int32.ofInt e10)), (5, .int (Int32.ofInt e7)), (0, .ref q1), (1, .ref (A 0)), (2, .ref (A 179)), (3, .ref (A 517)), (4, .int (Int32.ofInt i))]) (show cdA 350 1434 = some (.istore 6, 2, 0, 0, 0) from rfl) (by decide) (fun _ h => h) ?_
  refine z_goto X (t := 1894) (show cdA 350 1436 = some (.goto 458, 3, 0, 0, 0) from rfl) (by decide) ?_
  refine w_widen (ce' := ce + 29) (sl' := sl + 222) (by omega) (by omega) ?_
  exact WS_lv (lv := [(0, .ref q1), (1, .ref (A 0)), (2, .ref (A 179)), (3, .ref (A 517)), (4, .int (Int32.ofInt i))]) (List.forall_mem_cons.mpr ⟨(List.Mem.tail _ (List.Mem.tail _ (List.Mem.head _))), (List.forall_mem_cons.mpr ⟨(List.Mem.tail _ (List.Mem.tail _ (List.Mem.tail _ (List.Mem.head _)))), (List.forall_mem_cons.mpr ⟨(List.Mem.tail _ (List.Mem.tail _ (List.Mem.tail _ (List.Mem.tail _ (List.Mem.head _))))), (List.forall_mem_cons.mpr ⟨(List.Mem.tail _ (List.Mem.tail _ (List.Mem.tail _ (List.Mem.tail _ (List.Mem.tail _ (List.Mem.head _)))))), (List.forall_mem_cons.mpr ⟨(List.Mem.tail _ (List.Mem.tail _ (List.Mem.tail _ (List.Mem.tail _ (List.Mem.tail _ (List.Mem.tail _ (List.Mem.head _))))))), (fun q h => absurd h List.not_mem_nil)⟩)⟩)⟩)⟩)⟩) (hk A _ Is9 JRLx_s9 (by omega) (by omega) (by omega))
theorem lc_34 (G : GX l s0 D tys a0 dT) (GR : RS0 s0) (SF : SF0 s0) (GT : TXs0 s0) {k : kx_T} (X : AX k 350 dT) (E : kL k = l ∧ kS0 k = s0 ∧ kD k = D ∧ kR k = room_1) {q1 L : Nat} {xs : Nat → Int32} (S : SX k q1 L xs) (hL : L ≤ 3072) (I : Bd s) (jR : RLx s) (p1 : iI s 89 = 1) (p2 : iI s 12 ≤ 8) (p3 : iI s 70 = iI s 107) {i : Int} (hi : 0 ≤ i ∧ i + 6 ≤ (L : Int)) {ce sl : Nat} (hce : ce + 29 ≤ 601024) (hsl : sl + 222 ≤ 7293034) (hk : ∀ (A : Nat → Nat) (t : PS), Bd t → RLx t → iI t 89 = 1 → iI t 12 ≤ 8 → iI t 70 = iI t 107 → WS k 1894 [(0, .ref q1), (1, .ref (A 0)), (2, .ref (A 179)), (3, .ref (A 517)), (4, .int (Int32.ofInt i))] [] (Wd A dT t) (ce + 29) (sl + 222)) : WS k 1439 [(0, .ref q1), (1, .ref (A 0)), (2, .ref (A 179)), (3, .ref (A 517)), (4, .int (Int32.ofInt i))] [] (Wd A dT s) ce sl := by
  have F : Fm [1000, 1001, 73] [1460, 399] s s := fm_rf _ _ s
  have b1 : (0 : Int) ≤ iI s 70 ∧ iI s 70 ≤ 40 := I.1 70
  have b2 : (0 : Int) ≤ iI s 107 ∧ iI s 107 ≤ 40 := I.1 107
  have b3 : (0 : Int) ≤ iI s 12 ∧ iI s 12 ≤ 9 := I.1 12
  have b4 : (1 : Int) ≤ iI s 89 ∧ iI s 89 ≤ 8 := I.1 89
  refine z_aload_n X (x := A 0) (show cdA 350 1439 = some (.aload_n 1, 1, 0, 0, 0) from rfl) (List.Mem.tail _ (List.Mem.head _)) ?_
  refine z_aload_n X (x := q1) (show cdA 350 1440 = some (.aload_n 0, 1, 0, 0, 0) from rfl) (List.Mem.head _) ?_
  refine z_load X (x := i) (show cdA 350 1441 = some (.iload 4, 2, 0, 0, 0) from rfl) (List.Mem.tail _ (List.Mem.tail _ (List.Mem.tail _ (List.Mem.tail _ (List.Mem.head _))))) ?_
  refine z_const X (show cdA 350 1443 = some (.iconst 1, 1, 0, 0, 0) from rfl) ?_
  refine z_add X (show cdA 350 1444 = some (.iadd, 1, 0, 0, 0) from rfl) ?_
  refine z_sld X S hL (show cdA 350 1445 = some (.iaload, 1, 0, 0, 0) from rfl) (show 0 ≤ (i + 1) ∧ (i + 1) < (L : Int) by omega) ?_
  have sr5 : rng (sc xs (i + 1)) := sc_rng
  refine z_aload_n X (x := q1) (show cdA 350 1446 = some (.aload_n 0, 1, 0, 0, 0) from rfl) (List.Mem.head _) ?_
  refine z_load X (x := i) (show cdA 350 1447 = some (.iload 4, 2, 0, 0, 0) from rfl) (List.Mem.tail _ (List.Mem.tail _ (List.Mem.tail _ (List.Mem.tail _ (List.Mem.head _))))) ?_
  refine z_const X (show cdA 350 1449 = some (.iconst 2, 1, 0, 0, 0) from rfl) ?_
  refine z_add X (show cdA 350 1450 = some (.iadd, 1, 0, 0, 0) from rfl) ?_
  refine z_sld X S hL (show cdA 350 1451 = some (.iaload, 1, 0, 0, 0) from rfl) (show 0 ≤ (i + 2) ∧ (i + 2) < (L : Int) by omega) ?_
  have sr6 : rng (sc xs (i + 2)) := sc_rng
  have N7 : ∀ e8 : Int, ((((sc xs (i + 2)) = 0) ∧ e8 = 0) ∨ (((sc xs (i + 2)) ≠ 0) ∧ e8 = 1)) → WS k 1460 [(0, .ref q1), (1, .ref (A 0)), (2, .ref (A 179)), (3, .ref (A 517)), (4, .int (Int32.ofInt i))] [.int (Int32.ofInt e8), .int (Int32.ofInt (sc xs (i + 1))), .ref (A 0)] (Wd A dT s) ce sl := by
    intro e8 he8
    have re8 : 0 ≤ e8 ∧ e8 ≤ 1 := by first | (clear he8; omega) | omega
    refine z_aload_n X (x := A 517) (show cdA 350 1460 = some (.aload_n 3, 1, 0, 0, 0) from rfl) (List.Mem.tail _ (List.Mem.tail _ (List.Mem.tail _ (List.Mem.head _)))) ?_
    refine z_callL X (rm := rmN 343) (As := [.ref (A 0), .int (Int32.ofInt (sc xs (i + 1))), .int (Int32.ofInt e8), .ref (A 517)]) (st := []) (show cdA 350 1461 = some (.invokestatic 253, 3, 343, 6, 0) from rfl) (by decide) rfl (by rw [E.1, E.2.1, E.2.2.1]; exact lw_storm G I (by first | (clear he8; omega) | omega) (by first | (clear he8; omega) | omega)) ⟨by rw [E.2.2.2]; exact (show 9 + 1 ≤ 2048 by first | (clear he8; omega) | omega), by rw [E.2.2.2]; exact (show 8 + (5 + 11) + 168 ≤ 84000 by first | (clear he8; omega) | omega), by rw [E.2.2.2]; exact (show ce + 1 ≤ 601024 by first | (clear he8; omega) | omega), by rw [E.2.2.2]; exact (show sl + 6 ≤ 7293034 by first | (clear he8; omega) | omega)⟩ (Nat.le_of_ble_eq_true rfl) (fun vv A s9 hA2 hq => ?_) (fun ee A s9 hA2 hq => ?_)
    rotate_left
    · obtain ⟨Is9, Fs9, e10, hv, hrs9, hps9⟩ := hq; cases hv
    obtain ⟨Is9, Fs9, e10, hv, hrs9, hps9⟩ := hq
    cases hv
    rw [← hA2 0 (by decide)]
    rw [← hA2 179 (by decide)]
    rw [← hA2 517 (by decide)]
    have Gs9 := fm_ts F Fs9 (by decide) (by decide)
    have JRLx_s9 : RLx s9 := RLx_fm Fs9 (by decide) jR
    have ws9_70 : iI s9 70 = iI s 70 := fm_i Fs9 (by decide)
    have ws9_107 : iI s9 107 = iI s 107 := fm_i Fs9 (by decide)
    have ws9_12 : iI s9 12 = iI s 12 := fm_i Fs9 (by decide)
    have ws9_89 : iI s9 89 = iI s 89 := fm_i Fs9 (by decide)
    show WS k 1464 [(0, .ref q1), (1, .ref (A 0)), (2, .ref (A 179)), (3, .ref (A 517)), (4, .int (Int32.ofInt i))] [.int (Int32.ofInt e10)] (Wd A dT s9) (ce + 1) (sl + 6)
    refine z_store X (lv' := [(5, .int (Int32.ofInt e10)), (0, .ref q1), (1, .ref (A 0)), (2, .ref (A 179)), (3, .ref (A 517)), (4, .int (Int32.ofInt i))]) (show cdA 350 1464 = some (.istore 5, 2, 0, 0, 0) from rfl) (by decide) (fun _ h => h) ?_
    refine z_aload_n X (x := A 179) (show cdA 350 1466 = some (.aload_n 2, 1, 0, 0, 0) from rfl) (List.Mem.tail _ (List.Mem.tail _ (List.Mem.tail _ (List.Mem.head _)))) ?_
    refine z_aload_n X (x := q1) (show cdA 350 1467 = some (.aload_n 0, 1, 0, 0, 0) from rfl) (List.Mem.tail _ (List.Mem.head _)) ?_
    refine z_load X (x := i) (show cdA 350 1468 = some (.iload 4, 2, 0, 0, 0) from rfl) (List.Mem.tail _ (List.Mem.tail _ (List.Mem.tail _ (List.Mem.tail _ (List.Mem.tail _ (List.Mem.head _)))))) ?_
    refine z_const X (show cdA 350 1470 = some (.iconst 1, 1, 0, 0, 0) from rfl) ?_
    refine z_add X (show cdA 350 1471 = some (.iadd, 1, 0, 0, 0) from rfl) ?_
    refine z_sld X S hL (show cdA 350 1472 = some (.iaload, 1, 0, 0, 0) from rfl) (show 0 ≤ (i + 1) ∧ (i + 1) < (L : Int) by first | (clear he8; omega) | omega) ?_
    have sr11 : rng (sc xs (i + 1)) := sc_rng
    refine z_aload_n X (x := q1) (show cdA 350 1473 = some (.aload_n 0, 1, 0, 0, 0) from rfl) (List.Mem.tail _ (List.Mem.head _)) ?_
    refine z_load X (x := i) (show cdA 350 1474 = some (.iload 4, 2, 0, 0, 0) from rfl) (List.Mem.tail _ (List.Mem.tail _ (List.Mem.tail _ (List.Mem.tail _ (List.Mem.tail _ (List.Mem.head _)))))) ?_
    refine z_const X (show cdA 350 1476 = some (.iconst 2, 1, 0, 0, 0) from rfl) ?_
    refine z_add X (show cdA 350 1477 = some (.iadd, 1, 0, 0, 0) from rfl) ?_
    refine z_sld X S hL (show cdA 350 1478 = some (.iaload, 1, 0, 0, 0) from rfl) (show 0 ≤ (i + 2) ∧ (i + 2) < (L : Int) by first | (clear he8; omega) | omega) ?_
    have sr12 : rng (sc xs (i + 2)) := sc_rng
    have N13 : ∀ e14 : Int, ((((sc xs (i + 2)) = 0) ∧ e14 = 0) ∨ (((sc xs (i + 2)) ≠ 0) ∧ e14 = 1)) → WS k 1487 [(5, .int (Int32.ofInt e10)), (0, .ref q1), (1, .ref (A 0)), (2, .ref (A 179)), (3, .ref (A 517)), (4, .int (Int32.ofInt i))] [.int (Int32.ofInt e14), .int (Int32.ofInt (sc xs (i + 1))), .ref (A 179)] (Wd A dT s9) (ce + 1) (sl + 6) := by
      intro e14 he14
      have re14 : 0 ≤ e14 ∧ e14 ≤ 1 := by first | (clear he14 he8; omega) | (clear he8; omega) | omega
      refine z_callV X 179 (rm := rmN 279) (As := [.int (Int32.ofInt (sc xs (i + 1))), .int (Int32.ofInt e14)]) (st := []) (show cdA 350 1487 = some (.invokevirtual 256, 3, 279, 0, 0) from rfl) rfl (by decide) rfl (by rw [E.1, E.2.1, E.2.2.1]; exact k_storm G Is9 (by first | exact ⟨sr11.1, sr11.2⟩ | omega) (by first | (clear he14 he8; omega) | (clear he8; omega) | omega)) ⟨by rw [E.2.2.2]; exact (show 7 + 1 ≤ 2048 by first | (clear he14 he8; omega) | (clear he8; omega) | omega), by rw [E.2.2.2]; exact (show 8 + (4 + 11) + 122 ≤ 84000 by first | (clear he14 he8; omega) | (clear he8; omega) | omega), by rw [E.2.2.2]; exact (show (ce + 1) + 0 ≤ 601024 by first | (clear he14 he8; omega) | (clear he8; omega) | omega), by rw [E.2.2.2]; exact (show (sl + 6) + 0 ≤ 7293034 by first | (clear he14 he8; omega) | (clear he8; omega) | omega)⟩ (Nat.le_of_ble_eq_true rfl) (fun vv s15 hq => ?_) (fun ee s15 hq => ?_)
      rotate_left
      · obtain ⟨Is15, Fs15, e16, hv, hrs15, hps15⟩ := hq; cases hv
      obtain ⟨Is15, Fs15, e16, hv, hrs15, hps15⟩ := hq
      cases hv
      have Gs15 := fm_ts Gs9 Fs15 (by decide) (by decide)
      have JRLx_s15 : RLx s15 := RLx_fm Fs15 (by decide) JRLx_s9
      have ws15_70 : iI s15 70 = iI s9 70 := fm_i Fs15 (by decide)
      have ws15_107 : iI s15 107 = iI s9 107 := fm_i Fs15 (by decide)
      have ws15_12 : iI s15 12 = iI s9 12 := fm_i Fs15 (by decide)
      have ws15_89 : iI s15 89 = iI s9 89 := fm_i Fs15 (by decide)
      have wos15 : iO s15 = iO s9 := fm_o Fs15 (by decide)
      show WS k 1490 [(5, .int (Int32.ofInt e10)), (0, .ref q1), (1, .ref (A 0)), (2, .ref (A 179)), (3, .ref (A 517)), (4, .int (Int32.ofInt i))] [.int (Int32.ofInt e16)] (Wd A dT s15) (ce + 1) (sl + 6)
      refine z_store X (lv' := [(6, .int (Int32.ofInt e16)), (5, .int (Int32.ofInt e10)), (0, .ref q1), (1, .ref (A 0)), (2, .ref (A 179)), (3, .ref (A 517)), (4, .int (Int32.ofInt i))]) (show cdA 350 1490 = some (.istore 6, 2, 0, 0, 0) from rfl) (by decide) (fun _ h => h) ?_
      refine z_goto X (t := 1894) (show cdA 350 1492 = some (.goto 402, 3, 0, 0, 0) from rfl) (by decide) ?_
      refine w_widen (ce' := ce + 29) (sl' := sl + 222) (by first | (clear he14 he8; omega) | (clear he8; omega) | omega) (by first | (clear he14 he8; omega) | (clear he8; omega) | omega) ?_
      exact WS_lv (lv := [(0, .ref q1), (1, .ref (A 0)), (2, .ref (A 179)), (3, .ref (A 517)), (4, .int (Int32.ofInt i))]) (List.forall_mem_cons.mpr ⟨(List.Mem.tail _ (List.Mem.tail _ (List.Mem.head _))), (List.forall_mem_cons.mpr ⟨(List.Mem.tail _ (List.Mem.tail _ (List.Mem.tail _ (List.Mem.head _)))), (List.forall_mem_cons.mpr ⟨(List.Mem.tail _ (List.Mem.tail _ (List.Mem.tail _ (List.Mem.tail _ (List.Mem.head _))))), (List.forall_mem_cons.mpr ⟨(List.Mem.tail _ (List.Mem.tail _ (List.Mem.tail _ (List.Mem.tail _ (List.Mem.tail _ (List.Mem.head _)))))), (List.forall_mem_cons.mpr ⟨(List.Mem.tail _ (List.Mem.tail _ (List.Mem.tail _ (List.Mem.tail _ (List.Mem.tail _ (List.Mem.tail _ (List.Mem.head _))))))), (fun q h => absurd h List.not_mem_nil)⟩)⟩)⟩)⟩)⟩) (hk A _ Is15 JRLx_s15 (by first | (clear he14 he8; omega) | (clear he8; omega) | omega) (by first | (clear he14 he8; omega) | (clear he8; omega) | omega) (by first | (clear he14 he8; omega) | (clear he8; omega) | omega))
    refine z_if_eq X (t := 1486) (show cdA 350 1479 = some (.ifCond .eq 7, 3, 0, 0, 1) from rfl) (by decide) ⟨by first | exact sr12.1 | omega, by first | exact sr12.2 | omega⟩ (fun g17 => ?_) (fun g17 => ?_)
    ·
      refine z_const X (show cdA 350 1486 = some (.iconst 0, 1, 0, 0, 0) from rfl) ?_
      exact N13 _ (Or.inl ⟨g17, rfl⟩)
    ·
      refine z_const X (show cdA 350 1482 = some (.iconst 1, 1, 0, 0, 0) from rfl) ?_
      refine z_goto X (t := 1487) (show cdA 350 1483 = some (.goto 4, 3, 0, 0, 0) from rfl) (by decide) ?_
      exact N13 _ (Or.inr (⟨g17, rfl⟩))
  refine z_if_eq X (t := 1459) (show cdA 350 1452 = some (.ifCond .eq 7, 3, 0, 0, 1) from rfl) (by decide) ⟨by first | exact sr6.1 | omega, by first | exact sr6.2 | omega⟩ (fun g18 => ?_) (fun g18 => ?_)
  ·
    refine z_const X (show cdA 350 1459 = some (.iconst 0, 1, 0, 0, 0) from rfl) ?_
    exact N7 _ (Or.inl ⟨g18, rfl⟩)
  ·
    refine z_const X (show cdA 350 1455 = some (.iconst 1, 1, 0, 0, 0) from rfl) ?_
    refine z_goto X (t := 1460) (show cdA 350 1456 = some (.goto 4, 3, 0, 0, 0) from rfl) (by decide) ?_
    exact N7 _ (Or.inr (⟨g18, rfl⟩))
theorem lc_35 (G : GX l s0 D tys a0 dT) (GR : RS0 s0) (SF : SF0 s0) (GT : TXs0 s0) {k : kx_T} (X : AX k 350 dT) (E : kL k = l ∧ kS0 k = s0 ∧ kD k = D ∧ kR k = room_1) {q1 L : Nat} {xs : Nat → Int32} (S : SX k q1 L xs) (hL : L ≤ 3072) (I : Bd s) (jR : RLx s) (p1 : iI s 89 = 1) (p2 : iI s 12 ≤ 8) (p3 : iI s 70 = iI s 107) {i : Int} (hi : 0 ≤ i ∧ i + 6 ≤ (L : Int)) {ce sl : Nat} (hce : ce + 29 ≤ 601024) (hsl : sl + 222 ≤ 7293034) (hk : ∀ (A : Nat → Nat) (t : PS), Bd t → RLx t → iI t 89 = 1 → iI t 12 ≤ 8 → iI t 70 = iI t 107 → WS k 1894 [(0, .ref q1), (1, .ref (A 0)), (2, .ref (A 179)), (3, .ref (A 517)), (4, .int (Int32.ofInt i))] [] (Wd A dT t) (ce + 29) (sl + 222)) : WS k 1495 [(0, .ref q1), (1, .ref (A 0)), (2, .ref (A 179)), (3, .ref (A 517)), (4, .int (Int32.ofInt i))] [] (Wd A dT s) ce sl := by
  have F : Fm [43, 44, 46, 47, 49, 50, 52, 53, 55, 56, 58, 59, 61, 62, 64, 65, 67, 68, 42, 39, 40, 41, 73, 105, 106, 77, 75, 78, 79, 80, 81] [57, 58, 67, 62, 77, 78, 79, 73, 87, 80, 81, 82, 83, 84, 85, 86, 96, 89, 90, 91, 92, 93, 94, 95, 105, 98, 99, 100, 101, 102, 103, 104, 114, 107, 108, 109, 110, 111, 112, 113, 123, 116, 117, 118, 119, 120, 121, 122, 132, 125, 126, 127, 128, 129, 130, 131, 141, 134, 135, 136, 137, 138, 139, 140, 150, 143, 144, 145, 146, 147, 148, 149, 20, 76, 74, 75, 72, 1059, 1060, 1061, 1063, 1460, 401, 400, 403, 404, 232, 402, 405, 406, 407, 408, 409, 410, 411, 412, 413, 414, 415, 416, 202, 204, 205, 206, 207, 208, 209, 210, 211, 212, 213, 214, 215, 216, 217, 218, 219, 220, 221, 222, 223, 224, 225, 226, 227, 203, 161, 230] s s := fm_rf _ _ s
  have b1 : (0 : Int) ≤ iI s 70 ∧ iI s 70 ≤ 40 := I.1 70
  have b2 : (0 : Int) ≤ iI s 107 ∧ iI s 107 ≤ 40 := I.1 107
  have b3 : (0 : Int) ≤ iI s 12 ∧ iI s 12 ≤ 9 := I.1 12
  have b4 : (1 : Int) ≤ iI s 89 ∧ iI s 89 ≤ 8 := I.1 89
  refine z_aload_n X (x := A 0) (show cdA 350 1495 = some (.aload_n 1, 1, 0, 0, 0) from rfl) (List.Mem.tail _ (List.Mem.head _)) ?_
  refine z_aload_n X (x := q1) (show cdA 350 1496 = some (.aload_n 0, 1, 0, 0, 0) from rfl) (List.Mem.head _) ?_
  refine z_load X (x := i) (show cdA 350 1497 = some (.iload 4, 2, 0, 0, 0) from rfl) (List.Mem.tail _ (List.Mem.tail _ (List.Mem.tail _ (List.Mem.tail _ (List.Mem.head _))))) ?_
  refine z_const X (show cdA 350 1499 = some (.iconst 1, 1, 0, 0, 0) from rfl) ?_
  refine z_add X (show cdA 350 1500 = some (.iadd, 1, 0, 0, 0) from rfl) ?_
  refine z_sld X S hL (show cdA 350 1501 = some (.iaload, 1, 0, 0, 0) from rfl) (show 0 ≤ (i + 1) ∧ (i + 1) < (L : Int) by omega) ?_
  have sr5 : rng (sc xs (i + 1)) := sc_rng
  refine z_aload_n X (x := q1) (show cdA 350 1502 = some (.aload_n 0, 1, 0, 0, 0) from rfl) (List.Mem.head _) ?_
  refine z_load X (x := i) (show cdA 350 1503 = some (.iload 4, 2, 0, 0, 0) from rfl) (List.Mem.tail _ (List.Mem.tail _ (List.Mem.tail _ (List.Mem.tail _ (List.Mem.head _))))) ?_
  refine z_const X (show cdA 350 1505 = some (.iconst 2, 1, 0, 0, 0) from rfl) ?_
  refine z_add X (show cdA 350 1506 = some (.iadd, 1, 0, 0, 0) from rfl) ?_
  refine z_sld X S hL (show cdA 350 1507 = some (.iaload, 1, 0, 0, 0) from rfl) (show 0 ≤ (i + 2) ∧ (i + 2) < (L : Int) by omega) ?_
  have sr6 : rng (sc xs (i + 2)) := sc_rng
  refine z_aload_n X (x := q1) (show cdA 350 1508 = some (.aload_n 0, 1, 0, 0, 0) from rfl) (List.Mem.head _) ?_
  refine z_load X (x := i) (show cdA 350 1509 = some (.iload 4, 2, 0, 0, 0) from rfl) (List.Mem.tail _ (List.Mem.tail _ (List.Mem.tail _ (List.Mem.tail _ (List.Mem.head _))))) ?_
  refine z_const X (show cdA 350 1511 = some (.iconst 3, 1, 0, 0, 0) from rfl) ?_
  refine z_add X (show cdA 350 1512 = some (.iadd, 1, 0, 0, 0) from rfl) ?_
  refine z_sld X S hL (show cdA 350 1513 = some (.iaload, 1, 0, 0, 0) from rfl) (show 0 ≤ (i + 3) ∧ (i + 3) < (L : Int) by omega) ?_
  have sr7 : rng (sc xs (i + 3)) := sc_rng
  refine z_aload_n X (x := q1) (show cdA 350 1514 = some (.aload_n 0, 1, 0, 0, 0) from rfl) (List.Mem.head _) ?_
  refine z_load X (x := i) (show cdA 350 1515 = some (.iload 4, 2, 0, 0, 0) from rfl) (List.Mem.tail _ (List.Mem.tail _ (List.Mem.tail _ (List.Mem.tail _ (List.Mem.head _))))) ?_
  refine z_const X (show cdA 350 1517 = some (.iconst 4, 1, 0, 0, 0) from rfl) ?_
  refine z_add X (show cdA 350 1518 = some (.iadd, 1, 0, 0, 0) from rfl) ?_
  refine z_sld X S hL (show cdA 350 1519 = some (.iaload, 1, 0, 0, 0) from rfl) (show 0 ≤ (i + 4) ∧ (i + 4) < (L : Int) by omega) ?_
  have sr8 : rng (sc xs (i + 4)) := sc_rng
  refine z_aload_n X (x := A 517) (show cdA 350 1520 = some (.aload_n 3, 1, 0, 0, 0) from rfl) (List.Mem.tail _ (List.Mem.tail _ (List.Mem.tail _ (List.Mem.head _)))) ?_
  refine z_callL X (rm := rmN 344) (As := [.ref (A 0), .int (Int32.ofInt (sc xs (i + 1))), .int (Int32.ofInt (sc xs (i + 2))), .int (Int32.ofInt (sc xs (i + 3))), .int (Int32.ofInt (sc xs (i + 4))), .ref (A 517)]) (st := []) (show cdA 350 1521 = some (.invokestatic 257, 3, 344, 6, 0) from rfl) (by decide) rfl (by rw [E.1, E.2.1, E.2.2.1]; exact lw_mends G GR I (by omega) (by omega) (by omega) (by omega)) ⟨by rw [E.2.2.2]; exact (show 55 + 1 ≤ 2048 by omega), by rw [E.2.2.2]; exact (show 8 + (7 + 11) + 2372 ≤ 84000 by omega), by rw [E.2.2.2]; exact (show ce + 4 ≤ 601024 by omega), by rw [E.2.2.2]; exact (show sl + 24 ≤ 7293034 by omega)⟩ (Nat.le_of_ble_eq_true rfl) (fun vv A s9 hA2 hq => ?_) (fun ee A s9 hA2 hq => ?_)
  rotate_left
  · obtain ⟨Is9, Fs9, e10, hv, hrs9, hps9⟩ := hq; cases hv
  obtain ⟨Is9, Fs9, e10, hv, hrs9, hps9⟩ := hq
  cases hv
  rw [← hA2 0 (by decide)]
  rw [← hA2 179 (by decide)]
  rw [← hA2 517 (by decide)]
  have Gs9 := fm_ts F Fs9 (by decide) (by decide +kernel)
  have JRLx_s9 : RLx s9 := RLx_fm Fs9 (by decide) jR
  have ws9_70 : iI s9 70 = iI s 70 := fm_i Fs9 (by decide)
  have ws9_107 : iI s9 107 = iI s 107 := fm_i Fs9 (by decide)
  have ws9_12 : iI s9 12 = iI s 12 := fm_i Fs9 (by decide)
  have ws9_89 : iI s9 89 = iI s 89 := fm_i Fs9 (by decide)
  show WS k 1524 [(0, .ref q1), (1, .ref (A 0)), (2, .ref (A 179)), (3, .ref (A 517)), (4, .int (Int32.ofInt i))] [.int (Int32.ofInt e10)] (Wd A dT s9) (ce + 4) (sl + 24)
  refine z_store X (lv' := [(5, .int (Int32.ofInt e10)), (0, .ref q1), (1, .ref (A 0)), (2, .ref (A 179)), (3, .ref (A 517)), (4, .int (Int32.ofInt i))]) (show cdA 350 1524 = some (.istore 5, 2, 0, 0, 0) from rfl) (by decide) (fun _ h => h) ?_
  refine z_aload_n X (x := A 179) (show cdA 350 1526 = some (.aload_n 2, 1, 0, 0, 0) from rfl) (List.Mem.tail _ (List.Mem.tail _ (List.Mem.tail _ (List.Mem.head _)))) ?_
  refine z_aload_n X (x := q1) (show cdA 350 1527 = some (.aload_n 0, 1, 0, 0, 0) from rfl) (List.Mem.tail _ (List.Mem.head _)) ?_
  refine z_load X (x := i) (show cdA 350 1528 = some (.iload 4, 2, 0, 0, 0) from rfl) (List.Mem.tail _ (List.Mem.tail _ (List.Mem.tail _ (List.Mem.tail _ (List.Mem.tail _ (List.Mem.head _)))))) ?_
  refine z_const X (show cdA 350 1530 = some (.iconst 1, 1, 0, 0, 0) from rfl) ?_
  refine z_add X (show cdA 350 1531 = some (.iadd, 1, 0, 0, 0) from rfl) ?_
  refine z_sld X S hL (show cdA 350 1532 = some (.iaload, 1, 0, 0, 0) from rfl) (show 0 ≤ (i + 1) ∧ (i + 1) < (L : Int) by omega) ?_
  have sr11 : rng (sc xs (i + 1)) := sc_rng
  refine z_aload_n X (x := q1) (show cdA 350 1533 = some (.aload_n 0, 1, 0, 0, 0) from rfl) (List.Mem.tail _ (List.Mem.head _)) ?_
  refine z_load X (x := i) (show cdA 350 1534 = some (.iload 4, 2, 0, 0, 0) from rfl) (List.Mem.tail _ (List.Mem.tail _ (List.Mem.tail _ (List.Mem.tail _ (List.Mem.tail _ (List.Mem.head _)))))) ?_
  refine z_const X (show cdA 350 1536 = some (.iconst 2, 1, 0, 0, 0) from rfl) ?_
  refine z_add X (show cdA 350 1537 = some (.iadd, 1, 0, 0, 0) from rfl) ?_
  refine z_sld X S hL (show cdA 350 1538 = some (.iaload, 1, 0, 0, 0) from rfl) (show 0 ≤ (i + 2) ∧ (i + 2) < (L : Int) by omega) ?_
  have sr12 : rng (sc xs (i + 2)) := sc_rng
  refine z_aload_n X (x := q1) (show cdA 350 1539 = some (.aload_n 0, 1, 0, 0, 0) from rfl) (List.Mem.tail _ (List.Mem.head _)) ?_
  refine z_load X (x := i) (show cdA 350 1540 = some (.iload 4, 2, 0, 0, 0) from rfl) (List.Mem.tail _ (List.Mem.tail _ (List.Mem.tail _ (List.Mem.tail _ (List.Mem.tail _ (List.Mem.head _)))))) ?_
  refine z_const X (show cdA 350 1542 = some (.iconst 3, 1, 0, 0, 0) from rfl) ?_
  refine z_add X (show cdA 350 1543 = some (.iadd, 1, 0, 0, 0) from rfl) ?_
  refine z_sld X S hL (show cdA 350 1544 = some (.iaload, 1, 0, 0, 0) from rfl) (show 0 ≤ (i + 3) ∧ (i + 3) < (L : Int) by omega) ?_
  have sr13 : rng (sc xs (i + 3)) := sc_rng
  refine z_aload_n X (x := q1) (show cdA 350 1545 = some (.aload_n 0, 1, 0, 0, 0) from rfl) (List.Mem.tail _ (List.Mem.head _)) ?_
  refine z_load X (x := i) (show cdA 350 1546 = some (.iload 4, 2, 0, 0, 0) from rfl) (List.Mem.tail _ (List.Mem.tail _ (List.Mem.tail _ (List.Mem.tail _ (List.Mem.tail _ (List.Mem.head _)))))) ?_
  refine z_const X (show cdA 350 1548 = some (.iconst 4, 1, 0, 0, 0) from rfl) ?_
  refine z_add X (show cdA 350 1549 = some (.iadd, 1, 0, 0, 0) from rfl) ?_
  refine z_sld X S hL (show cdA 350 1550 = some (.iaload, 1, 0, 0, 0) from rfl) (show 0 ≤ (i + 4) ∧ (i + 4) < (L : Int) by omega) ?_
  have sr14 : rng (sc xs (i + 4)) := sc_rng
  refine z_callV X 179 (rm := rmN 286) (As := [.int (Int32.ofInt (sc xs (i + 1))), .int (Int32.ofInt (sc xs (i + 2))), .int (Int32.ofInt (sc xs (i + 3))), .int (Int32.ofInt (sc xs (i + 4)))]) (st := []) (show cdA 350 1551 = some (.invokevirtual 260, 3, 286, 0, 0) from rfl) rfl (by decide) rfl (by rw [E.1, E.2.1, E.2.2.1]; exact k_mends G Is9 JRLx_s9 (by first | exact ⟨sr11.1, sr11.2⟩ | omega) (by first | exact ⟨sr12.1, sr12.2⟩ | omega) (by first | exact ⟨sr13.1, sr13.2⟩ | omega) (by first | exact ⟨sr14.1, sr14.2⟩ | omega)) ⟨by rw [E.2.2.2]; exact (show 73 + 1 ≤ 2048 by omega), by rw [E.2.2.2]; exact (show 8 + (7 + 11) + 3227 ≤ 84000 by omega), by rw [E.2.2.2]; exact (show (ce + 4) + 0 ≤ 601024 by omega), by rw [E.2.2.2]; exact (show (sl + 24) + 0 ≤ 7293034 by omega)⟩ (Nat.le_of_ble_eq_true rfl) (fun vv s15 hq => ?_) (fun ee s15 hq => ?_)
  rotate_left
  · obtain ⟨Is15, Fs15, JRLx_s15, e16, hv, hrs15, hps15⟩ := hq; cases hv
  obtain ⟨Is15, Fs15, JRLx_s15, e16, hv, hrs15, hps15⟩ := hq
  cases hv
  have Gs15 := fm_ts Gs9 Fs15 (by decide) (by decide)
  have JRLx_s15 : RLx s15 := RLx_fm Fs15 (by decide) JRLx_s9
  have ws15_70 : iI s15 70 = iI s9 70 := fm_i Fs15 (by decide)
  have ws15_107 : iI s15 107 = iI s9 107 := fm_i Fs15 (by decide)
  have ws15_12 : iI s15 12 = iI s9 12 := fm_i Fs15 (by decide)
  have ws15_89 : iI s15 89 = iI s9 89 := fm_i Fs15 (by decide)
  have wos15 : iO s15 = iO s9 := fm_o Fs15 (by decide)
  show WS k 1554 [(5, .int (Int32.ofInt e10)), (0, .ref q1), (1, .ref (A 0)), (2, .ref (A 179)), (3, .ref (A 517)), (4, .int (Int32.ofInt i))] [.int (Int32.ofInt e16)] (Wd A dT s15) (ce + 4) (sl + 24)
  refine z_store X (lv' := [(6, .int (Int32.ofInt e16)), (5, .int (Int32.ofInt e10)), (0, .ref q1), (1, .ref (A 0)), (2, .ref (A 179)), (3, .ref (A 517)), (4, .int (Int32.ofInt i))]) (show cdA 350 1554 = some (.istore 6, 2, 0, 0, 0) from rfl) (by decide) (fun _ h => h) ?_
  refine z_goto X (t := 1894) (show cdA 350 1556 = some (.goto 338, 3, 0, 0, 0) from rfl) (by decide) ?_
  refine w_widen (ce' := ce + 29) (sl' := sl + 222) (by omega) (by omega) ?_
  exact WS_lv (lv := [(0, .ref q1), (1, .ref (A 0)), (2, .ref (A 179)), (3, .ref (A 517)), (4, .int (Int32.ofInt i))]) (List.forall_mem_cons.mpr ⟨(List.Mem.tail _ (List.Mem.tail _ (List.Mem.head _))), (List.forall_mem_cons.mpr ⟨(List.Mem.tail _ (List.Mem.tail _ (List.Mem.tail _ (List.Mem.head _)))), (List.forall_mem_cons.mpr ⟨(List.Mem.tail _ (List.Mem.tail _ (List.Mem.tail _ (List.Mem.tail _ (List.Mem.head _))))), (List.forall_mem_cons.mpr ⟨(List.Mem.tail _ (List.Mem.tail _ (List.Mem.tail _ (List.Mem.tail _ (List.Mem.tail _ (List.Mem.head _)))))), (List.forall_mem_cons.mpr ⟨(List.Mem.tail _ (List.Mem.tail _ (List.Mem.tail _ (List.Mem.tail _ (List.Mem.tail _ (List.Mem.tail _ (List.Mem.head _))))))), (fun q h => absurd h List.not_mem_nil)⟩)⟩)⟩)⟩)⟩) (hk A _ Is15 JRLx_s15 (by omega) (by omega) (by omega))
theorem lc_36 (G : GX l s0 D tys a0 dT) (GR : RS0 s0) (SF : SF0 s0) (GT : TXs0 s0) {k : kx_T} (X : AX k 350 dT) (E : kL k = l ∧ kS0 k = s0 ∧ kD k = D ∧ kR k = room_1) {q1 L : Nat} {xs : Nat → Int32} (S : SX k q1 L xs) (hL : L ≤ 3072) (I : Bd s) (jR : RLx s) (p1 : iI s 89 = 1) (p2 : iI s 12 ≤ 8) (p3 : iI s 70 = iI s 107) {i : Int} (hi : 0 ≤ i ∧ i + 6 ≤ (L : Int)) {ce sl : Nat} (hce : ce + 29 ≤ 601024) (hsl : sl + 222 ≤ 7293034) (hk : ∀ (A : Nat → Nat) (t : PS), Bd t → RLx t → iI t 89 = 1 → iI t 12 ≤ 8 → iI t 70 = iI t 107 → WS k 1894 [(0, .ref q1), (1, .ref (A 0)), (2, .ref (A 179)), (3, .ref (A 517)), (4, .int (Int32.ofInt i))] [] (Wd A dT t) (ce + 29) (sl + 222)) : WS k 1559 [(0, .ref q1), (1, .ref (A 0)), (2, .ref (A 179)), (3, .ref (A 517)), (4, .int (Int32.ofInt i))] [] (Wd A dT s) ce sl := by
  have F : Fm [22, 23, 70, 73, 107, 77, 75, 78, 79, 80, 81] [33, 26, 27, 28, 29, 30, 31, 32, 152, 153, 154, 1460, 202, 204, 205, 206, 207, 208, 209, 210, 211, 212, 213, 214, 215, 216, 217, 218, 219, 220, 221, 222, 223, 224, 225, 226, 227, 203, 161, 230, 417, 418, 419, 420, 421, 422, 423, 424, 425, 426, 427, 428, 429, 430, 431, 432, 433, 434, 435, 436, 437, 438, 439, 440, 441, 442, 443, 444, 445, 446, 447, 448, 449, 450, 451, 452, 453, 454, 455, 456, 457, 459] s s := fm_rf _ _ s
  have b1 : (0 : Int) ≤ iI s 70 ∧ iI s 70 ≤ 40 := I.1 70
  have b2 : (0 : Int) ≤ iI s 107 ∧ iI s 107 ≤ 40 := I.1 107
  have b3 : (0 : Int) ≤ iI s 12 ∧ iI s 12 ≤ 9 := I.1 12
  have b4 : (1 : Int) ≤ iI s 89 ∧ iI s 89 ≤ 8 := I.1 89
  refine z_aload_n X (x := A 0) (show cdA 350 1559 = some (.aload_n 1, 1, 0, 0, 0) from rfl) (List.Mem.tail _ (List.Mem.head _)) ?_
  refine z_aload_n X (x := q1) (show cdA 350 1560 = some (.aload_n 0, 1, 0, 0, 0) from rfl) (List.Mem.head _) ?_
  refine z_load X (x := i) (show cdA 350 1561 = some (.iload 4, 2, 0, 0, 0) from rfl) (List.Mem.tail _ (List.Mem.tail _ (List.Mem.tail _ (List.Mem.tail _ (List.Mem.head _))))) ?_
  refine z_const X (show cdA 350 1563 = some (.iconst 1, 1, 0, 0, 0) from rfl) ?_
  refine z_add X (show cdA 350 1564 = some (.iadd, 1, 0, 0, 0) from rfl) ?_
  refine z_sld X S hL (show cdA 350 1565 = some (.iaload, 1, 0, 0, 0) from rfl) (show 0 ≤ (i + 1) ∧ (i + 1) < (L : Int) by omega) ?_
  have sr5 : rng (sc xs (i + 1)) := sc_rng
  refine z_aload_n X (x := q1) (show cdA 350 1566 = some (.aload_n 0, 1, 0, 0, 0) from rfl) (List.Mem.head _) ?_
  refine z_load X (x := i) (show cdA 350 1567 = some (.iload 4, 2, 0, 0, 0) from rfl) (List.Mem.tail _ (List.Mem.tail _ (List.Mem.tail _ (List.Mem.tail _ (List.Mem.head _))))) ?_
  refine z_const X (show cdA 350 1569 = some (.iconst 2, 1, 0, 0, 0) from rfl) ?_
  refine z_add X (show cdA 350 1570 = some (.iadd, 1, 0, 0, 0) from rfl) ?_
  refine z_sld X S hL (show cdA 350 1571 = some (.iaload, 1, 0, 0, 0) from rfl) (show 0 ≤ (i + 2) ∧ (i + 2) < (L : Int) by omega) ?_
  have sr6 : rng (sc xs (i + 2)) := sc_rng
  refine z_aload_n X (x := q1) (show cdA 350 1572 = some (.aload_n 0, 1, 0, 0, 0) from rfl) (List.Mem.head _) ?_
  refine z_load X (x := i) (show cdA 350 1573 = some (.iload 4, 2, 0, 0, 0) from rfl) (List.Mem.tail _ (List.Mem.tail _ (List.Mem.tail _ (List.Mem.tail _ (List.Mem.head _))))) ?_
  refine z_const X (show cdA 350 1575 = some (.iconst 3, 1, 0, 0, 0) from rfl) ?_
  refine z_add X (show cdA 350 1576 = some (.iadd, 1, 0, 0, 0) from rfl) ?_
  refine z_sld X S hL (show cdA 350 1577 = some (.iaload, 1, 0, 0, 0) from rfl) (show 0 ≤ (i + 3) ∧ (i + 3) < (L : Int) by omega) ?_
  have sr7 : rng (sc xs (i + 3)) := sc_rng
  refine z_aload_n X (x := q1) (show cdA 350 1578 = some (.aload_n 0, 1, 0, 0, 0) from rfl) (List.Mem.head _) ?_
  refine z_load X (x := i) (show cdA 350 1579 = some (.iload 4, 2, 0, 0, 0) from rfl) (List.Mem.tail _ (List.Mem.tail _ (List.Mem.tail _ (List.Mem.tail _ (List.Mem.head _))))) ?_
  refine z_const X (show cdA 350 1581 = some (.iconst 4, 1, 0, 0, 0) from rfl) ?_
  refine z_add X (show cdA 350 1582 = some (.iadd, 1, 0, 0, 0) from rfl) ?_
  refine z_sld X S hL (show cdA 350 1583 = some (.iaload, 1, 0, 0, 0) from rfl) (show 0 ≤ (i + 4) ∧ (i + 4) < (L : Int) by omega) ?_
  have sr8 : rng (sc xs (i + 4)) := sc_rng
  have N9 : ∀ e10 : Int, ((((sc xs (i + 4)) = 0) ∧ e10 = 0) ∨ (((sc xs (i + 4)) ≠ 0) ∧ e10 = 1)) → WS k 1592 [(0, .ref q1), (1, .ref (A 0)), (2, .ref (A 179)), (3, .ref (A 517)), (4, .int (Int32.ofInt i))] [.int (Int32.ofInt e10), .int (Int32.ofInt (sc xs (i + 3))), .int (Int32.ofInt (sc xs (i + 2))), .int (Int32.ofInt (sc xs (i + 1))), .ref (A 0)] (Wd A dT s) ce sl := by
    intro e10 he10
    have re10 : 0 ≤ e10 ∧ e10 ≤ 1 := by first | (clear he10; omega) | omega
    refine z_aload_n X (x := A 517) (show cdA 350 1592 = some (.aload_n 3, 1, 0, 0, 0) from rfl) (List.Mem.tail _ (List.Mem.tail _ (List.Mem.tail _ (List.Mem.head _)))) ?_
    refine z_callL X (rm := rmN 345) (As := [.ref (A 0), .int (Int32.ofInt (sc xs (i + 1))), .int (Int32.ofInt (sc xs (i + 2))), .int (Int32.ofInt (sc xs (i + 3))), .int (Int32.ofInt e10), .ref (A 517)]) (st := []) (show cdA 350 1593 = some (.invokestatic 261, 3, 345, 6, 0) from rfl) (by decide) rfl (by rw [E.1, E.2.1, E.2.2.1]; exact lw_did2 G I (by first | (clear he10; omega) | omega) (by first | (clear he10; omega) | omega) (by first | (clear he10; omega) | omega) (by first | (clear he10; omega) | omega)) ⟨by rw [E.2.2.2]; exact (show 11 + 1 ≤ 2048 by first | (clear he10; omega) | omega), by rw [E.2.2.2]; exact (show 8 + (7 + 11) + 229 ≤ 84000 by first | (clear he10; omega) | omega), by rw [E.2.2.2]; exact (show ce + 3 ≤ 601024 by first | (clear he10; omega) | omega), by rw [E.2.2.2]; exact (show sl + 18 ≤ 7293034 by first | (clear he10; omega) | omega)⟩ (Nat.le_of_ble_eq_true rfl) (fun vv A s11 hA2 hq => ?_) (fun ee A s11 hA2 hq => ?_)
    rotate_left
    · obtain ⟨Is11, Fs11, e12, hv, hrs11, hps11⟩ := hq; cases hv
    obtain ⟨Is11, Fs11, e12, hv, hrs11, hps11⟩ := hq
    cases hv
    rw [← hA2 0 (by decide)]
    rw [← hA2 179 (by decide)]
    rw [← hA2 517 (by decide)]
    have Gs11 := fm_ts F Fs11 (by decide) (by decide)
    have JRLx_s11 : RLx s11 := RLx_fm Fs11 (by decide) jR
    have b13 : (0 : Int) ≤ iI s11 70 ∧ iI s11 70 ≤ 40 := Is11.1 70
    have ws11_107 : iI s11 107 = iI s 107 := fm_i Fs11 (by decide)
    have ws11_12 : iI s11 12 = iI s 12 := fm_i Fs11 (by decide)
    have ws11_89 : iI s11 89 = iI s 89 := fm_i Fs11 (by decide)
    show WS k 1596 [(0, .ref q1), (1, .ref (A 0)), (2, .ref (A 179)), (3, .ref (A 517)), (4, .int (Int32.ofInt i))] [.int (Int32.ofInt e12)] (Wd A dT s11) (ce + 3) (sl + 18)
    refine z_store X (lv' := [(5, .int (Int32.ofInt e12)), (0, .ref q1), (1, .ref (A 0)), (2, .ref (A 179)), (3, .ref (A 517)), (4, .int (Int32.ofInt i))]) (show cdA 350 1596 = some (.istore 5, 2, 0, 0, 0) from rfl) (by decide) (fun _ h => h) ?_
    refine z_aload_n X (x := A 179) (show cdA 350 1598 = some (.aload_n 2, 1, 0, 0, 0) from rfl) (List.Mem.tail _ (List.Mem.tail _ (List.Mem.tail _ (List.Mem.head _)))) ?_
    refine z_aload_n X (x := q1) (show cdA 350 1599 = some (.aload_n 0, 1, 0, 0, 0) from rfl) (List.Mem.tail _ (List.Mem.head _)) ?_
    refine z_load X (x := i) (show cdA 350 1600 = some (.iload 4, 2, 0, 0, 0) from rfl) (List.Mem.tail _ (List.Mem.tail _ (List.Mem.tail _ (List.Mem.tail _ (List.Mem.tail _ (List.Mem.head _)))))) ?_
    refine z_const X (show cdA 350 1602 = some (.iconst 1, 1, 0, 0, 0) from rfl) ?_
    refine z_add X (show cdA 350 1603 = some (.iadd, 1, 0, 0, 0) from rfl) ?_
    refine z_sld X S hL (show cdA 350 1604 = some (.iaload, 1, 0, 0, 0) from rfl) (show 0 ≤ (i + 1) ∧ (i + 1) < (L : Int) by first | (clear hps11 he10; omega) | (clear he10; omega) | omega) ?_
    have sr14 : rng (sc xs (i + 1)) := sc_rng
    refine z_aload_n X (x := q1) (show cdA 350 1605 = some (.aload_n 0, 1, 0, 0, 0) from rfl) (List.Mem.tail _ (List.Mem.head _)) ?_
    refine z_load X (x := i) (show cdA 350 1606 = some (.iload 4, 2, 0, 0, 0) from rfl) (List.Mem.tail _ (List.Mem.tail _ (List.Mem.tail _ (List.Mem.tail _ (List.Mem.tail _ (List.Mem.head _)))))) ?_
    refine z_const X (show cdA 350 1608 = some (.iconst 2, 1, 0, 0, 0) from rfl) ?_
    refine z_add X (show cdA 350 1609 = some (.iadd, 1, 0, 0, 0) from rfl) ?_
    refine z_sld X S hL (show cdA 350 1610 = some (.iaload, 1, 0, 0, 0) from rfl) (show 0 ≤ (i + 2) ∧ (i + 2) < (L : Int) by first | (clear hps11 he10; omega) | (clear he10; omega) | omega) ?_
    have sr15 : rng (sc xs (i + 2)) := sc_rng
    refine z_aload_n X (x := q1) (show cdA 350 1611 = some (.aload_n 0, 1, 0, 0, 0) from rfl) (List.Mem.tail _ (List.Mem.head _)) ?_
    refine z_load X (x := i) (show cdA 350 1612 = some (.iload 4, 2, 0, 0, 0) from rfl) (List.Mem.tail _ (List.Mem.tail _ (List.Mem.tail _ (List.Mem.tail _ (List.Mem.tail _ (List.Mem.head _)))))) ?_
    refine z_const X (show cdA 350 1614 = some (.iconst 3, 1, 0, 0, 0) from rfl) ?_
    refine z_add X (show cdA 350 1615 = some (.iadd, 1, 0, 0, 0) from rfl) ?_
    refine z_sld X S hL (show cdA 350 1616 = some (.iaload, 1, 0, 0, 0) from rfl) (show 0 ≤ (i + 3) ∧ (i + 3) < (L : Int) by first | (clear hps11 he10; omega) | (clear he10; omega) | omega) ?_
    have sr16 : rng (sc xs (i + 3)) := sc_rng
    refine z_aload_n X (x := q1) (show cdA 350 1617 = some (.aload_n 0, 1, 0, 0, 0) from rfl) (List.Mem.tail _ (List.Mem.head _)) ?_
    refine z_load X (x := i) (show cdA 350 1618 = some (.iload 4, 2, 0, 0, 0) from rfl) (List.Mem.tail _ (List.Mem.tail _ (List.Mem.tail _ (List.Mem.tail _ (List.Mem.tail _ (List.Mem.head _)))))) ?_
    refine z_const X (show cdA 350 1620 = some (.iconst 4, 1, 0, 0, 0) from rfl) ?_
    refine z_add X (show cdA 350 1621 = some (.iadd, 1, 0, 0, 0) from rfl) ?_
    refine z_sld X S hL (show cdA 350 1622 = some (.iaload, 1, 0, 0, 0) from rfl) (show 0 ≤ (i + 4) ∧ (i + 4) < (L : Int) by first | (clear hps11 he10; omega) | (clear he10; omega) | omega) ?_
    have sr17 : rng (sc xs (i + 4)) := sc_rng
    have N18 : ∀ e19 : Int, ((((sc xs (i + 4)) = 0) ∧ e19 = 0) ∨ (((sc xs (i + 4)) ≠ 0) ∧ e19 = 1)) → WS k 1631 [(5, .int (Int32.ofInt e12)), (0, .ref q1), (1, .ref (A 0)), (2, .ref (A 179)), (3, .ref (A 517)), (4, .int (Int32.ofInt i))] [.int (Int32.ofInt e19), .int (Int32.ofInt (sc xs (i + 3))), .int (Int32.ofInt (sc xs (i + 2))), .int (Int32.ofInt (sc xs (i + 1))), .ref (A 179)] (Wd A dT s11) (ce + 3) (sl + 18) := by
      intro e19 he19
      have re19 : 0 ≤ e19 ∧ e19 ≤ 1 := by first | (clear he19 hps11 he10; omega) | (clear hps11 he10; omega) | omega
      refine z_callV X 179 (rm := rmN 287) (As := [.int (Int32.ofInt (sc xs (i + 1))), .int (Int32.ofInt (sc xs (i + 2))), .int (Int32.ofInt (sc xs (i + 3))), .int (Int32.ofInt e19)]) (st := []) (show cdA 350 1631 = some (.invokevirtual 264, 3, 287, 0, 0) from rfl) rfl (by decide) rfl (by rw [E.1, E.2.1, E.2.2.1]; exact k_did2 G Is11 JRLx_s11 (by first | exact ⟨sr14.1, sr14.2⟩ | omega) (by first | exact ⟨sr15.1, sr15.2⟩ | omega) (by first | exact ⟨sr16.1, sr16.2⟩ | omega) (by first | (clear he19 hps11 he10; omega) | (clear hps11 he10; omega) | omega)) ⟨by rw [E.2.2.2]; exact (show 10 + 1 ≤ 2048 by first | (clear he19 hps11 he10; omega) | (clear hps11 he10; omega) | omega), by rw [E.2.2.2]; exact (show 8 + (6 + 11) + 189 ≤ 84000 by first | (clear he19 hps11 he10; omega) | (clear hps11 he10; omega) | omega), by rw [E.2.2.2]; exact (show (ce + 3) + 0 ≤ 601024 by first | (clear he19 hps11 he10; omega) | (clear hps11 he10; omega) | omega), by rw [E.2.2.2]; exact (show (sl + 18) + 0 ≤ 7293034 by first | (clear he19 hps11 he10; omega) | (clear hps11 he10; omega) | omega)⟩ (Nat.le_of_ble_eq_true rfl) (fun vv s20 hq => ?_) (fun ee s20 hq => ?_)
      rotate_left
      · obtain ⟨Is20, Fs20, JRLx_s20, e21, hv, hrs20, hps20⟩ := hq; cases hv
      obtain ⟨Is20, Fs20, JRLx_s20, e21, hv, hrs20, hps20⟩ := hq
      cases hv
      have Gs20 := fm_ts Gs11 Fs20 (by decide) (by decide +kernel)
      have JRLx_s20 : RLx s20 := RLx_fm Fs20 (by decide) JRLx_s11
      have ws20_70 : iI s20 70 = iI s11 70 := fm_i Fs20 (by decide)
      have b22 : (0 : Int) ≤ iI s20 107 ∧ iI s20 107 ≤ 40 := Is20.1 107
      have ws20_12 : iI s20 12 = iI s11 12 := fm_i Fs20 (by decide)
      have ws20_89 : iI s20 89 = iI s11 89 := fm_i Fs20 (by decide)
      have wos20 : iO s20 = iO s11 := fm_o Fs20 (by decide)
      show WS k 1634 [(5, .int (Int32.ofInt e12)), (0, .ref q1), (1, .ref (A 0)), (2, .ref (A 179)), (3, .ref (A 517)), (4, .int (Int32.ofInt i))] [.int (Int32.ofInt e21)] (Wd A dT s20) (ce + 3) (sl + 18)
      refine z_store X (lv' := [(6, .int (Int32.ofInt e21)), (5, .int (Int32.ofInt e12)), (0, .ref q1), (1, .ref (A 0)), (2, .ref (A 179)), (3, .ref (A 517)), (4, .int (Int32.ofInt i))]) (show cdA 350 1634 = some (.istore 6, 2, 0, 0, 0) from rfl) (by decide) (fun _ h => h) ?_
      refine z_aload_n X (x := A 179) (show cdA 350 1636 = some (.aload_n 2, 1, 0, 0, 0) from rfl) (List.Mem.tail _ (List.Mem.tail _ (List.Mem.tail _ (List.Mem.tail _ (List.Mem.head _))))) ?_
      refine z_callV X 179 (rm := rmN 186) (As := []) (st := []) (show cdA 350 1637 = some (.invokevirtual 265, 3, 186, 0, 0) from rfl) rfl (by decide) rfl (by rw [E.1, E.2.1, E.2.2.1]; exact k_thrown2 G Is20 ) ⟨by rw [E.2.2.2]; exact (show 6 + 1 ≤ 2048 by first | (clear hps20 he19 hps11 he10; omega) | (clear he19 hps11 he10; omega) | omega), by rw [E.2.2.2]; exact (show 8 + (1 + 11) + 100 ≤ 84000 by first | (clear hps20 he19 hps11 he10; omega) | (clear he19 hps11 he10; omega) | omega), by rw [E.2.2.2]; exact (show (ce + 3) + 0 ≤ 601024 by first | (clear hps20 he19 hps11 he10; omega) | (clear he19 hps11 he10; omega) | omega), by rw [E.2.2.2]; exact (show (sl + 18) + 0 ≤ 7293034 by first | (clear hps20 he19 hps11 he10; omega) | (clear he19 hps11 he10; omega) | omega)⟩ (Nat.le_of_ble_eq_true rfl) (fun vv s23 hq => ?_) (fun ee s23 hq => ?_)
      rotate_left
      · obtain ⟨rfl, e24, hv, hrs23, hps23⟩ := hq; cases hv
      obtain ⟨rfl, e24, hv, hrs23, hps23⟩ := hq
      cases hv
      show WS k 1640 [(6, .int (Int32.ofInt e21)), (5, .int (Int32.ofInt e12)), (0, .ref q1), (1, .ref (A 0)), (2, .ref (A 179)), (3, .ref (A 517)), (4, .int (Int32.ofInt i))] [.int (Int32.ofInt e24)] (Wd A dT s20) (ce + 3) (sl + 18)
      refine z_load X (x := e12) (show cdA 350 1640 = some (.iload 5, 2, 0, 0, 0) from rfl) (List.Mem.tail _ (List.Mem.head _)) ?_
      refine z_icmp_eq X (t := 1647) (show cdA 350 1642 = some (.if_icmp .eq 5, 3, 0, 0, 0) from rfl) (by decide) hrs23 ⟨by first | (clear hps20 he19 hps11 he10; omega) | (clear he19 hps11 he10; omega) | omega, by first | (clear hps20 he19 hps11 he10; omega) | (clear he19 hps11 he10; omega) | omega⟩ (fun g25 => ?_) (fun g25 => ?_)
      ·
        refine z_load X (x := e12) (show cdA 350 1647 = some (.iload 5, 2, 0, 0, 0) from rfl) (List.Mem.tail _ (List.Mem.head _)) ?_
        refine z_if_ne X (t := 1664) (show cdA 350 1649 = some (.ifCond .ne 15, 3, 1, 0, 0) from rfl) (by decide) ⟨by first | (clear hps20 he19 hps11 he10; omega) | (clear he19 hps11 he10; omega) | omega, by first | (clear hps20 he19 hps11 he10; omega) | (clear he19 hps11 he10; omega) | omega⟩ (fun g26 => ?_) (fun g26 => ?_)
        ·
          refine z_goto X (t := 1894) (show cdA 350 1664 = some (.goto 230, 3, 0, 0, 0) from rfl) (by decide) ?_
          refine w_widen (ce' := ce + 29) (sl' := sl + 222) (by first | (clear g26 hps20 he19 hps11 he10; omega) | (clear hps20 he19 hps11 he10; omega) | omega) (by first | (clear g26 hps20 he19 hps11 he10; omega) | (clear hps20 he19 hps11 he10; omega) | omega) ?_
          exact WS_lv (lv := [(0, .ref q1), (1, .ref (A 0)), (2, .ref (A 179)), (3, .ref (A 517)), (4, .int (Int32.ofInt i))]) (List.forall_mem_cons.mpr ⟨(List.Mem.tail _ (List.Mem.tail _ (List.Mem.head _))), (List.forall_mem_cons.mpr ⟨(List.Mem.tail _ (List.Mem.tail _ (List.Mem.tail _ (List.Mem.head _)))), (List.forall_mem_cons.mpr ⟨(List.Mem.tail _ (List.Mem.tail _ (List.Mem.tail _ (List.Mem.tail _ (List.Mem.head _))))), (List.forall_mem_cons.mpr ⟨(List.Mem.tail _ (List.Mem.tail _ (List.Mem.tail _ (List.Mem.tail _ (List.Mem.tail _ (List.Mem.head _)))))), (List.forall_mem_cons.mpr ⟨(List.Mem.tail _ (List.Mem.tail _ (List.Mem.tail _ (List.Mem.tail _ (List.Mem.tail _ (List.Mem.tail _ (List.Mem.head _))))))), (fun q h => absurd h List.not_mem_nil)⟩)⟩)⟩)⟩)⟩) (hk A _ Is20 JRLx_s20 (by first | (clear g26 hps20 he19 hps11 he10; omega) | (clear hps20 he19 hps11 he10; omega) | omega) (by first | (clear g26 hps20 he19 hps11 he10; omega) | (clear hps20 he19 hps11 he10; omega) | omega) (by first | (clear g26 hps20 he19 hps11 he10; omega) | (clear hps20 he19 hps11 he10; omega) | omega))
        ·
          refine z_aload_n X (x := A 517) (show cdA 350 1652 = some (.aload_n 3, 1, 0, 0, 0) from rfl) (List.Mem.tail _ (List.Mem.tail _ (List.Mem.tail _ (List.Mem.tail _ (List.Mem.tail _ (List.Mem.head _)))))) ?_
          refine z_const X (show cdA 350 1653 = some (.iconst 0, 1, 0, 0, 0) from rfl) ?_
          refine z_lO X (show cdA 350 1654 = some (.laload, 1, 0, 0, 0) from rfl) ?_
          refine z_load X (x := e21) (show cdA 350 1655 = some (.iload 6, 2, 0, 0, 0) from rfl) (List.Mem.head _) ?_
          refine w_i2l X.1 (ax_d X (show cdA 350 1657 = some (.i2l, 1, 0, 0, 0) from rfl)) ?_
          refine w_lcmp X.1 (ax_d X (show cdA 350 1658 = some (.lcmp, 1, 0, 0, 0) from rfl)) ?_
          refine z_lc (show rng e21 by first | (clear hps20 he19 hps11 he10; omega) | (clear he19 hps11 he10; omega) | omega) (fun c27 hc27 ic27 => ?_)
          show WS k 1659 [(6, .int (Int32.ofInt e21)), (5, .int (Int32.ofInt e12)), (0, .ref q1), (1, .ref (A 0)), (2, .ref (A 179)), (3, .ref (A 517)), (4, .int (Int32.ofInt i))] [.int (Int32.ofInt c27)] (Wd A dT s20) (ce + 3) (sl + 18)
          refine z_if_eq X (t := 1664) (show cdA 350 1659 = some (.ifCond .eq 5, 3, 0, 0, 0) from rfl) (by decide) ⟨by first | (clear hps20 he19 hps11 he10; omega) | (clear he19 hps11 he10; omega) | omega, by first | (clear hps20 he19 hps11 he10; omega) | (clear he19 hps11 he10; omega) | omega⟩ (fun g28 => ?_) (fun g28 => ?_)
          ·
            refine z_goto X (t := 1894) (show cdA 350 1664 = some (.goto 230, 3, 0, 0, 0) from rfl) (by decide) ?_
            refine w_widen (ce' := ce + 29) (sl' := sl + 222) (by first | (clear hps20 he19 hps11 he10; omega) | (clear he19 hps11 he10; omega) | omega) (by first | (clear hps20 he19 hps11 he10; omega) | (clear he19 hps11 he10; omega) | omega) ?_
            exact WS_lv (lv := [(0, .ref q1), (1, .ref (A 0)), (2, .ref (A 179)), (3, .ref (A 517)), (4, .int (Int32.ofInt i))]) (List.forall_mem_cons.mpr ⟨(List.Mem.tail _ (List.Mem.tail _ (List.Mem.head _))), (List.forall_mem_cons.mpr ⟨(List.Mem.tail _ (List.Mem.tail _ (List.Mem.tail _ (List.Mem.head _)))), (List.forall_mem_cons.mpr ⟨(List.Mem.tail _ (List.Mem.tail _ (List.Mem.tail _ (List.Mem.tail _ (List.Mem.head _))))), (List.forall_mem_cons.mpr ⟨(List.Mem.tail _ (List.Mem.tail _ (List.Mem.tail _ (List.Mem.tail _ (List.Mem.tail _ (List.Mem.head _)))))), (List.forall_mem_cons.mpr ⟨(List.Mem.tail _ (List.Mem.tail _ (List.Mem.tail _ (List.Mem.tail _ (List.Mem.tail _ (List.Mem.tail _ (List.Mem.head _))))))), (fun q h => absurd h List.not_mem_nil)⟩)⟩)⟩)⟩)⟩) (hk A _ Is20 JRLx_s20 (by first | (clear hps20 he19 hps11 he10; omega) | (clear he19 hps11 he10; omega) | omega) (by first | (clear hps20 he19 hps11 he10; omega) | (clear he19 hps11 he10; omega) | omega) (by first | (clear hps20 he19 hps11 he10; omega) | (clear he19 hps11 he10; omega) | omega))
          ·
            exfalso
            omega
      ·
        exfalso
        omega
    refine z_if_eq X (t := 1630) (show cdA 350 1623 = some (.ifCond .eq 7, 3, 0, 0, 1) from rfl) (by decide) ⟨by first | exact sr17.1 | omega, by first | exact sr17.2 | omega⟩ (fun g29 => ?_) (fun g29 => ?_)
    ·
      refine z_const X (show cdA 350 1630 = some (.iconst 0, 1, 0, 0, 0) from rfl) ?_
      exact N18 _ (Or.inl ⟨g29, rfl⟩)
    ·
      refine z_const X (show cdA 350 1626 = some (.iconst 1, 1, 0, 0, 0) from rfl) ?_
      refine z_goto X (t := 1631) (show cdA 350 1627 = some (.goto 4, 3, 0, 0, 0) from rfl) (by decide) ?_
      exact N18 _ (Or.inr (⟨g29, rfl⟩))
  refine z_if_eq X (t := 1591) (show cdA 350 1584 = some (.ifCond .eq 7, 3, 0, 0, 1) from rfl) (by decide) ⟨by first | exact sr8.1 | omega, by first | exact sr8.2 | omega⟩ (fun g30 => ?_) (fun g30 => ?_)
  ·
    refine z_const X (show cdA 350 1591 = some (.iconst 0, 1, 0, 0, 0) from rfl) ?_
    exact N9 _ (Or.inl ⟨g30, rfl⟩)
  ·
    refine z_const X (show cdA 350 1587 = some (.iconst 1, 1, 0, 0, 0) from rfl) ?_
    refine z_goto X (t := 1592) (show cdA 350 1588 = some (.goto 4, 3, 0, 0, 0) from rfl) (by decide) ?_
    exact N9 _ (Or.inr (⟨g30, rfl⟩))
theorem lc_37 (G : GX l s0 D tys a0 dT) (GR : RS0 s0) (SF : SF0 s0) (GT : TXs0 s0) {k : kx_T} (X : AX k 350 dT) (E : kL k = l ∧ kS0 k = s0 ∧ kD k = D ∧ kR k = room_1) {q1 L : Nat} {xs : Nat → Int32} (S : SX k q1 L xs) (hL : L ≤ 3072) (I : Bd s) (jR : RLx s) (p1 : iI s 89 = 1) (p2 : iI s 12 ≤ 8) (p3 : iI s 70 = iI s 107) {i : Int} (hi : 0 ≤ i ∧ i + 6 ≤ (L : Int)) {ce sl : Nat} (hce : ce + 29 ≤ 601024) (hsl : sl + 222 ≤ 7293034) (hk : ∀ (A : Nat → Nat) (t : PS), Bd t → RLx t → iI t 89 = 1 → iI t 12 ≤ 8 → iI t 70 = iI t 107 → WS k 1894 [(0, .ref q1), (1, .ref (A 0)), (2, .ref (A 179)), (3, .ref (A 517)), (4, .int (Int32.ofInt i))] [] (Wd A dT t) (ce + 29) (sl + 222)) : WS k 1667 [(0, .ref q1), (1, .ref (A 0)), (2, .ref (A 179)), (3, .ref (A 517)), (4, .int (Int32.ofInt i))] [] (Wd A dT s) ce sl := by
  have F : Fm [71, 72, 73] [156, 155, 1460] s s := fm_rf _ _ s
  have b1 : (0 : Int) ≤ iI s 70 ∧ iI s 70 ≤ 40 := I.1 70
  have b2 : (0 : Int) ≤ iI s 107 ∧ iI s 107 ≤ 40 := I.1 107
  have b3 : (0 : Int) ≤ iI s 12 ∧ iI s 12 ≤ 9 := I.1 12
  have b4 : (1 : Int) ≤ iI s 89 ∧ iI s 89 ≤ 8 := I.1 89
  refine z_aload_n X (x := A 0) (show cdA 350 1667 = some (.aload_n 1, 1, 0, 0, 0) from rfl) (List.Mem.tail _ (List.Mem.head _)) ?_
  refine z_aload_n X (x := q1) (show cdA 350 1668 = some (.aload_n 0, 1, 0, 0, 0) from rfl) (List.Mem.head _) ?_
  refine z_load X (x := i) (show cdA 350 1669 = some (.iload 4, 2, 0, 0, 0) from rfl) (List.Mem.tail _ (List.Mem.tail _ (List.Mem.tail _ (List.Mem.tail _ (List.Mem.head _))))) ?_
  refine z_const X (show cdA 350 1671 = some (.iconst 1, 1, 0, 0, 0) from rfl) ?_
  refine z_add X (show cdA 350 1672 = some (.iadd, 1, 0, 0, 0) from rfl) ?_
  refine z_sld X S hL (show cdA 350 1673 = some (.iaload, 1, 0, 0, 0) from rfl) (show 0 ≤ (i + 1) ∧ (i + 1) < (L : Int) by omega) ?_
  have sr5 : rng (sc xs (i + 1)) := sc_rng
  refine z_aload_n X (x := A 517) (show cdA 350 1674 = some (.aload_n 3, 1, 0, 0, 0) from rfl) (List.Mem.tail _ (List.Mem.tail _ (List.Mem.tail _ (List.Mem.head _)))) ?_
  refine z_callL X (rm := rmN 346) (As := [.ref (A 0), .int (Int32.ofInt (sc xs (i + 1))), .ref (A 517)]) (st := []) (show cdA 350 1675 = some (.invokestatic 268, 3, 346, 6, 0) from rfl) (by decide) rfl (by rw [E.1, E.2.1, E.2.2.1]; exact lw_fit G I (by omega)) ⟨by rw [E.2.2.2]; exact (show 10 + 1 ≤ 2048 by omega), by rw [E.2.2.2]; exact (show 8 + (4 + 11) + 190 ≤ 84000 by omega), by rw [E.2.2.2]; exact (show ce + 1 ≤ 601024 by omega), by rw [E.2.2.2]; exact (show sl + 6 ≤ 7293034 by omega)⟩ (Nat.le_of_ble_eq_true rfl) (fun vv A s6 hA2 hq => ?_) (fun ee A s6 hA2 hq => ?_)
  rotate_left
  · obtain ⟨Is6, Fs6, e7, hv, hrs6, hps6⟩ := hq; cases hv
  obtain ⟨Is6, Fs6, e7, hv, hrs6, hps6⟩ := hq
  cases hv
  rw [← hA2 0 (by decide)]
  rw [← hA2 179 (by decide)]
  rw [← hA2 517 (by decide)]
  have Gs6 := fm_ts F Fs6 (by decide) (by decide)
  have JRLx_s6 : RLx s6 := RLx_fm Fs6 (by decide) jR
  have ws6_70 : iI s6 70 = iI s 70 := fm_i Fs6 (by decide)
  have ws6_107 : iI s6 107 = iI s 107 := fm_i Fs6 (by decide)
  have ws6_12 : iI s6 12 = iI s 12 := fm_i Fs6 (by decide)
  have ws6_89 : iI s6 89 = iI s 89 := fm_i Fs6 (by decide)
  show WS k 1678 [(0, .ref q1), (1, .ref (A 0)), (2, .ref (A 179)), (3, .ref (A 517)), (4, .int (Int32.ofInt i))] [.int (Int32.ofInt e7)] (Wd A dT s6) (ce + 1) (sl + 6)
  refine z_store X (lv' := [(5, .int (Int32.ofInt e7)), (0, .ref q1), (1, .ref (A 0)), (2, .ref (A 179)), (3, .ref (A 517)), (4, .int (Int32.ofInt i))]) (show cdA 350 1678 = some (.istore 5, 2, 0, 0, 0) from rfl) (by decide) (fun _ h => h) ?_
  refine z_aload_n X (x := A 179) (show cdA 350 1680 = some (.aload_n 2, 1, 0, 0, 0) from rfl) (List.Mem.tail _ (List.Mem.tail _ (List.Mem.tail _ (List.Mem.head _)))) ?_
  refine z_aload_n X (x := q1) (show cdA 350 1681 = some (.aload_n 0, 1, 0, 0, 0) from rfl) (List.Mem.tail _ (List.Mem.head _)) ?_
  refine z_load X (x := i) (show cdA 350 1682 = some (.iload 4, 2, 0, 0, 0) from rfl) (List.Mem.tail _ (List.Mem.tail _ (List.Mem.tail _ (List.Mem.tail _ (List.Mem.tail _ (List.Mem.head _)))))) ?_
  refine z_const X (show cdA 350 1684 = some (.iconst 1, 1, 0, 0, 0) from rfl) ?_
  refine z_add X (show cdA 350 1685 = some (.iadd, 1, 0, 0, 0) from rfl) ?_
  refine z_sld X S hL (show cdA 350 1686 = some (.iaload, 1, 0, 0, 0) from rfl) (show 0 ≤ (i + 1) ∧ (i + 1) < (L : Int) by omega) ?_
  have sr8 : rng (sc xs (i + 1)) := sc_rng
  refine z_callV X 179 (rm := rmN 289) (As := [.int (Int32.ofInt (sc xs (i + 1)))]) (st := []) (show cdA 350 1687 = some (.invokevirtual 270, 3, 289, 0, 0) from rfl) rfl (by decide) rfl (by rw [E.1, E.2.1, E.2.2.1]; exact k_fit G Is6 (by first | exact ⟨sr8.1, sr8.2⟩ | omega)) ⟨by rw [E.2.2.2]; exact (show 8 + 1 ≤ 2048 by omega), by rw [E.2.2.2]; exact (show 8 + (7 + 11) + 145 ≤ 84000 by omega), by rw [E.2.2.2]; exact (show (ce + 1) + 0 ≤ 601024 by omega), by rw [E.2.2.2]; exact (show (sl + 6) + 0 ≤ 7293034 by omega)⟩ (Nat.le_of_ble_eq_true rfl) (fun vv s9 hq => ?_) (fun ee s9 hq => ?_)
  rotate_left
  · obtain ⟨Is9, Fs9, e10, hv, hrs9, hps9⟩ := hq; cases hv
  obtain ⟨Is9, Fs9, e10, hv, hrs9, hps9⟩ := hq
  cases hv
  have Gs9 := fm_ts Gs6 Fs9 (by decide) (by decide)
  have JRLx_s9 : RLx s9 := RLx_fm Fs9 (by decide) JRLx_s6
  have ws9_70 : iI s9 70 = iI s6 70 := fm_i Fs9 (by decide)
  have ws9_107 : iI s9 107 = iI s6 107 := fm_i Fs9 (by decide)
  have ws9_12 : iI s9 12 = iI s6 12 := fm_i Fs9 (by decide)
  have ws9_89 : iI s9 89 = iI s6 89 := fm_i Fs9 (by decide)
  have wos9 : iO s9 = iO s6 := fm_o Fs9 (by decide)
  show WS k 1690 [(5, .int (Int32.ofInt e7)), (0, .ref q1), (1, .ref (A 0)), (2, .ref (A 179)), (3, .ref (A 517)), (4, .int (Int32.ofInt i))] [.int (Int32.ofInt e10)] (Wd A dT s9) (ce + 1) (sl + 6)
  refine z_store X (lv' := [(6, .int (Int32.ofInt e10)), (5, .int (Int32.ofInt e7)), (0, .ref q1), (1, .ref (A 0)), (2, .ref (A 179)), (3, .ref (A 517)), (4, .int (Int32.ofInt i))]) (show cdA 350 1690 = some (.istore 6, 2, 0, 0, 0) from rfl) (by decide) (fun _ h => h) ?_
  refine z_goto X (t := 1894) (show cdA 350 1692 = some (.goto 202, 3, 0, 0, 0) from rfl) (by decide) ?_
  refine w_widen (ce' := ce + 29) (sl' := sl + 222) (by omega) (by omega) ?_
  exact WS_lv (lv := [(0, .ref q1), (1, .ref (A 0)), (2, .ref (A 179)), (3, .ref (A 517)), (4, .int (Int32.ofInt i))]) (List.forall_mem_cons.mpr ⟨(List.Mem.tail _ (List.Mem.tail _ (List.Mem.head _))), (List.forall_mem_cons.mpr ⟨(List.Mem.tail _ (List.Mem.tail _ (List.Mem.tail _ (List.Mem.head _)))), (List.forall_mem_cons.mpr ⟨(List.Mem.tail _ (List.Mem.tail _ (List.Mem.tail _ (List.Mem.tail _ (List.Mem.head _))))), (List.forall_mem_cons.mpr ⟨(List.Mem.tail _ (List.Mem.tail _ (List.Mem.tail _ (List.Mem.tail _ (List.Mem.tail _ (List.Mem.head _)))))), (List.forall_mem_cons.mpr ⟨(List.Mem.tail _ (List.Mem.tail _ (List.Mem.tail _ (List.Mem.tail _ (List.Mem.tail _ (List.Mem.tail _ (List.Mem.head _))))))), (fun q h => absurd h List.not_mem_nil)⟩)⟩)⟩)⟩)⟩) (hk A _ Is9 JRLx_s9 (by omega) (by omega) (by omega))
theorem lc_38 (G : GX l s0 D tys a0 dT) (GR : RS0 s0) (SF : SF0 s0) (GT : TXs0 s0) {k : kx_T} (X : AX k 350 dT) (E : kL k = l ∧ kS0 k = s0 ∧ kD k = D ∧ kR k = room_1) {q1 L : Nat} {xs : Nat → Int32} (S : SX k q1 L xs) (hL : L ≤ 3072) (I : Bd s) (jR : RLx s) (p1 : iI s 89 = 1) (p2 : iI s 12 ≤ 8) (p3 : iI s 70 = iI s 107) {i : Int} (hi : 0 ≤ i ∧ i + 6 ≤ (L : Int)) {ce sl : Nat} (hce : ce + 29 ≤ 601024) (hsl : sl + 222 ≤ 7293034) (hk : ∀ (A : Nat → Nat) (t : PS), Bd t → RLx t → iI t 89 = 1 → iI t 12 ≤ 8 → iI t 70 = iI t 107 → WS k 1894 [(0, .ref q1), (1, .ref (A 0)), (2, .ref (A 179)), (3, .ref (A 517)), (4, .int (Int32.ofInt i))] [] (Wd A dT t) (ce + 29) (sl + 222)) : WS k 1695 [(0, .ref q1), (1, .ref (A 0)), (2, .ref (A 179)), (3, .ref (A 517)), (4, .int (Int32.ofInt i))] [] (Wd A dT s) ce sl := by
  have F : Fm [22, 23, 73, 77, 75, 78, 79, 80, 81] [33, 26, 27, 28, 29, 30, 31, 32, 20, 34, 1460, 202, 204, 205, 206, 207, 208, 209, 210, 211, 212, 213, 214, 215, 216, 217, 218, 219, 220, 221, 222, 223, 224, 225, 226, 227, 203, 161, 230] s s := fm_rf _ _ s
  have b1 : (0 : Int) ≤ iI s 70 ∧ iI s 70 ≤ 40 := I.1 70
  have b2 : (0 : Int) ≤ iI s 107 ∧ iI s 107 ≤ 40 := I.1 107
  have b3 : (0 : Int) ≤ iI s 12 ∧ iI s 12 ≤ 9 := I.1 12
  have b4 : (1 : Int) ≤ iI s 89 ∧ iI s 89 ≤ 8 := I.1 89
  refine z_aload_n X (x := A 0) (show cdA 350 1695 = some (.aload_n 1, 1, 0, 0, 0) from rfl) (List.Mem.tail _ (List.Mem.head _)) ?_
  refine z_aload_n X (x := q1) (show cdA 350 1696 = some (.aload_n 0, 1, 0, 0, 0) from rfl) (List.Mem.head _) ?_
  refine z_load X (x := i) (show cdA 350 1697 = some (.iload 4, 2, 0, 0, 0) from rfl) (List.Mem.tail _ (List.Mem.tail _ (List.Mem.tail _ (List.Mem.tail _ (List.Mem.head _))))) ?_
  refine z_const X (show cdA 350 1699 = some (.iconst 1, 1, 0, 0, 0) from rfl) ?_
  refine z_add X (show cdA 350 1700 = some (.iadd, 1, 0, 0, 0) from rfl) ?_
  refine z_sld X S hL (show cdA 350 1701 = some (.iaload, 1, 0, 0, 0) from rfl) (show 0 ≤ (i + 1) ∧ (i + 1) < (L : Int) by omega) ?_
  have sr5 : rng (sc xs (i + 1)) := sc_rng
  refine z_aload_n X (x := q1) (show cdA 350 1702 = some (.aload_n 0, 1, 0, 0, 0) from rfl) (List.Mem.head _) ?_
  refine z_load X (x := i) (show cdA 350 1703 = some (.iload 4, 2, 0, 0, 0) from rfl) (List.Mem.tail _ (List.Mem.tail _ (List.Mem.tail _ (List.Mem.tail _ (List.Mem.head _))))) ?_
  refine z_const X (show cdA 350 1705 = some (.iconst 2, 1, 0, 0, 0) from rfl) ?_
  refine z_add X (show cdA 350 1706 = some (.iadd, 1, 0, 0, 0) from rfl) ?_
  refine z_sld X S hL (show cdA 350 1707 = some (.iaload, 1, 0, 0, 0) from rfl) (show 0 ≤ (i + 2) ∧ (i + 2) < (L : Int) by omega) ?_
  have sr6 : rng (sc xs (i + 2)) := sc_rng
  refine z_aload_n X (x := q1) (show cdA 350 1708 = some (.aload_n 0, 1, 0, 0, 0) from rfl) (List.Mem.head _) ?_
  refine z_load X (x := i) (show cdA 350 1709 = some (.iload 4, 2, 0, 0, 0) from rfl) (List.Mem.tail _ (List.Mem.tail _ (List.Mem.tail _ (List.Mem.tail _ (List.Mem.head _))))) ?_
  refine z_const X (show cdA 350 1711 = some (.iconst 3, 1, 0, 0, 0) from rfl) ?_
  refine z_add X (show cdA 350 1712 = some (.iadd, 1, 0, 0, 0) from rfl) ?_
  refine z_sld X S hL (show cdA 350 1713 = some (.iaload, 1, 0, 0, 0) from rfl) (show 0 ≤ (i + 3) ∧ (i + 3) < (L : Int) by omega) ?_
  have sr7 : rng (sc xs (i + 3)) := sc_rng
  refine z_aload_n X (x := q1) (show cdA 350 1714 = some (.aload_n 0, 1, 0, 0, 0) from rfl) (List.Mem.head _) ?_
  refine z_load X (x := i) (show cdA 350 1715 = some (.iload 4, 2, 0, 0, 0) from rfl) (List.Mem.tail _ (List.Mem.tail _ (List.Mem.tail _ (List.Mem.tail _ (List.Mem.head _))))) ?_
  refine z_const X (show cdA 350 1717 = some (.iconst 4, 1, 0, 0, 0) from rfl) ?_
  refine z_add X (show cdA 350 1718 = some (.iadd, 1, 0, 0, 0) from rfl) ?_
  refine z_sld X S hL (show cdA 350 1719 = some (.iaload, 1, 0, 0, 0) from rfl) (show 0 ≤ (i + 4) ∧ (i + 4) < (L : Int) by omega) ?_
  have sr8 : rng (sc xs (i + 4)) := sc_rng
  have N9 : ∀ e10 : Int, ((((sc xs (i + 4)) = 0) ∧ e10 = 0) ∨ (((sc xs (i + 4)) ≠ 0) ∧ e10 = 1)) → WS k 1728 [(0, .ref q1), (1, .ref (A 0)), (2, .ref (A 179)), (3, .ref (A 517)), (4, .int (Int32.ofInt i))] [.int (Int32.ofInt e10), .int (Int32.ofInt (sc xs (i + 3))), .int (Int32.ofInt (sc xs (i + 2))), .int (Int32.ofInt (sc xs (i + 1))), .ref (A 0)] (Wd A dT s) ce sl := by
    intro e10 he10
    have re10 : 0 ≤ e10 ∧ e10 ≤ 1 := by first | (clear he10; omega) | omega
    refine z_aload_n X (x := A 517) (show cdA 350 1728 = some (.aload_n 3, 1, 0, 0, 0) from rfl) (List.Mem.tail _ (List.Mem.tail _ (List.Mem.tail _ (List.Mem.head _)))) ?_
    refine z_callL X (rm := rmN 347) (As := [.ref (A 0), .int (Int32.ofInt (sc xs (i + 1))), .int (Int32.ofInt (sc xs (i + 2))), .int (Int32.ofInt (sc xs (i + 3))), .int (Int32.ofInt e10), .ref (A 517)]) (st := []) (show cdA 350 1729 = some (.invokestatic 271, 3, 347, 6, 0) from rfl) (by decide) rfl (by rw [E.1, E.2.1, E.2.2.1]; exact lw_lead G I (by first | (clear he10; omega) | omega) (by first | (clear he10; omega) | omega) (by first | (clear he10; omega) | omega) (by first | (clear he10; omega) | omega)) ⟨by rw [E.2.2.2]; exact (show 11 + 1 ≤ 2048 by first | (clear he10; omega) | omega), by rw [E.2.2.2]; exact (show 8 + (7 + 11) + 230 ≤ 84000 by first | (clear he10; omega) | omega), by rw [E.2.2.2]; exact (show ce + 2 ≤ 601024 by first | (clear he10; omega) | omega), by rw [E.2.2.2]; exact (show sl + 12 ≤ 7293034 by first | (clear he10; omega) | omega)⟩ (Nat.le_of_ble_eq_true rfl) (fun vv A s11 hA2 hq => ?_) (fun ee A s11 hA2 hq => ?_)
    rotate_left
    · obtain ⟨Is11, Fs11, e12, hv, hrs11, hps11⟩ := hq; cases hv
    obtain ⟨Is11, Fs11, e12, hv, hrs11, hps11⟩ := hq
    cases hv
    rw [← hA2 0 (by decide)]
    rw [← hA2 179 (by decide)]
    rw [← hA2 517 (by decide)]
    have Gs11 := fm_ts F Fs11 (by decide) (by decide)
    have JRLx_s11 : RLx s11 := RLx_fm Fs11 (by decide) jR
    have ws11_70 : iI s11 70 = iI s 70 := fm_i Fs11 (by decide)
    have ws11_107 : iI s11 107 = iI s 107 := fm_i Fs11 (by decide)
    have ws11_12 : iI s11 12 = iI s 12 := fm_i Fs11 (by decide)
    have ws11_89 : iI s11 89 = iI s 89 := fm_i Fs11 (by decide)
    show WS k 1732 [(0, .ref q1), (1, .ref (A 0)), (2, .ref (A 179)), (3, .ref (A 517)), (4, .int (Int32.ofInt i))] [.int (Int32.ofInt e12)] (Wd A dT s11) (ce + 2) (sl + 12)
    refine z_store X (lv' := [(5, .int (Int32.ofInt e12)), (0, .ref q1), (1, .ref (A 0)), (2, .ref (A 179)), (3, .ref (A 517)), (4, .int (Int32.ofInt i))]) (show cdA 350 1732 = some (.istore 5, 2, 0, 0, 0) from rfl) (by decide) (fun _ h => h) ?_
    refine z_aload_n X (x := A 179) (show cdA 350 1734 = some (.aload_n 2, 1, 0, 0, 0) from rfl) (List.Mem.tail _ (List.Mem.tail _ (List.Mem.tail _ (List.Mem.head _)))) ?_
    refine z_aload_n X (x := q1) (show cdA 350 1735 = some (.aload_n 0, 1, 0, 0, 0) from rfl) (List.Mem.tail _ (List.Mem.head _)) ?_
    refine z_load X (x := i) (show cdA 350 1736 = some (.iload 4, 2, 0, 0, 0) from rfl) (List.Mem.tail _ (List.Mem.tail _ (List.Mem.tail _ (List.Mem.tail _ (List.Mem.tail _ (List.Mem.head _)))))) ?_
    refine z_const X (show cdA 350 1738 = some (.iconst 1, 1, 0, 0, 0) from rfl) ?_
    refine z_add X (show cdA 350 1739 = some (.iadd, 1, 0, 0, 0) from rfl) ?_
    refine z_sld X S hL (show cdA 350 1740 = some (.iaload, 1, 0, 0, 0) from rfl) (show 0 ≤ (i + 1) ∧ (i + 1) < (L : Int) by first | (clear he10; omega) | omega) ?_
    have sr13 : rng (sc xs (i + 1)) := sc_rng
    refine z_aload_n X (x := q1) (show cdA 350 1741 = some (.aload_n 0, 1, 0, 0, 0) from rfl) (List.Mem.tail _ (List.Mem.head _)) ?_
    refine z_load X (x := i) (show cdA 350 1742 = some (.iload 4, 2, 0, 0, 0) from rfl) (List.Mem.tail _ (List.Mem.tail _ (List.Mem.tail _ (List.Mem.tail _ (List.Mem.tail _ (List.Mem.head _)))))) ?_
    refine z_const X (show cdA 350 1744 = some (.iconst 2, 1, 0, 0, 0) from rfl) ?_
    refine z_add X (show cdA 350 1745 = some (.iadd, 1, 0, 0, 0) from rfl) ?_
    refine z_sld X S hL (show cdA 350 1746 = some (.iaload, 1, 0, 0, 0) from rfl) (show 0 ≤ (i + 2) ∧ (i + 2) < (L : Int) by first | (clear he10; omega) | omega) ?_
    have sr14 : rng (sc xs (i + 2)) := sc_rng
    refine z_aload_n X (x := q1) (show cdA 350 1747 = some (.aload_n 0, 1, 0, 0, 0) from rfl) (List.Mem.tail _ (List.Mem.head _)) ?_
    refine z_load X (x := i) (show cdA 350 1748 = some (.iload 4, 2, 0, 0, 0) from rfl) (List.Mem.tail _ (List.Mem.tail _ (List.Mem.tail _ (List.Mem.tail _ (List.Mem.tail _ (List.Mem.head _)))))) ?_
    refine z_const X (show cdA 350 1750 = some (.iconst 3, 1, 0, 0, 0) from rfl) ?_
    refine z_add X (show cdA 350 1751 = some (.iadd, 1, 0, 0, 0) from rfl) ?_
    refine z_sld X S hL (show cdA 350 1752 = some (.iaload, 1, 0, 0, 0) from rfl) (show 0 ≤ (i + 3) ∧ (i + 3) < (L : Int) by first | (clear he10; omega) | omega) ?_
    have sr15 : rng (sc xs (i + 3)) := sc_rng
    refine z_aload_n X (x := q1) (show cdA 350 1753 = some (.aload_n 0, 1, 0, 0, 0) from rfl) (List.Mem.tail _ (List.Mem.head _)) ?_
    refine z_load X (x := i) (show cdA 350 1754 = some (.iload 4, 2, 0, 0, 0) from rfl) (List.Mem.tail _ (List.Mem.tail _ (List.Mem.tail _ (List.Mem.tail _ (List.Mem.tail _ (List.Mem.head _)))))) ?_
    refine z_const X (show cdA 350 1756 = some (.iconst 4, 1, 0, 0, 0) from rfl) ?_
    refine z_add X (show cdA 350 1757 = some (.iadd, 1, 0, 0, 0) from rfl) ?_
    refine z_sld X S hL (show cdA 350 1758 = some (.iaload, 1, 0, 0, 0) from rfl) (show 0 ≤ (i + 4) ∧ (i + 4) < (L : Int) by first | (clear he10; omega) | omega) ?_
    have sr16 : rng (sc xs (i + 4)) := sc_rng
    have N17 : ∀ e18 : Int, ((((sc xs (i + 4)) = 0) ∧ e18 = 0) ∨ (((sc xs (i + 4)) ≠ 0) ∧ e18 = 1)) → WS k 1767 [(5, .int (Int32.ofInt e12)), (0, .ref q1), (1, .ref (A 0)), (2, .ref (A 179)), (3, .ref (A 517)), (4, .int (Int32.ofInt i))] [.int (Int32.ofInt e18), .int (Int32.ofInt (sc xs (i + 3))), .int (Int32.ofInt (sc xs (i + 2))), .int (Int32.ofInt (sc xs (i + 1))), .ref (A 179)] (Wd A dT s11) (ce + 2) (sl + 12) := by
      intro e18 he18
      have re18 : 0 ≤ e18 ∧ e18 ≤ 1 := by first | (clear he18 he10; omega) | (clear he10; omega) | omega
      refine z_callV X 179 (rm := rmN 290) (As := [.int (Int32.ofInt (sc xs (i + 1))), .int (Int32.ofInt (sc xs (i + 2))), .int (Int32.ofInt (sc xs (i + 3))), .int (Int32.ofInt e18)]) (st := []) (show cdA 350 1767 = some (.invokevirtual 273, 3, 290, 0, 0) from rfl) rfl (by decide) rfl (by rw [E.1, E.2.1, E.2.2.1]; exact k_lead G Is11 JRLx_s11 (by first | exact ⟨sr13.1, sr13.2⟩ | omega) (by first | exact ⟨sr14.1, sr14.2⟩ | omega) (by first | exact ⟨sr15.1, sr15.2⟩ | omega) (by first | (clear he18 he10; omega) | (clear he10; omega) | omega)) ⟨by rw [E.2.2.2]; exact (show 37 + 1 ≤ 2048 by first | (clear he18 he10; omega) | (clear he10; omega) | omega), by rw [E.2.2.2]; exact (show 8 + (10 + 11) + 1578 ≤ 84000 by first | (clear he18 he10; omega) | (clear he10; omega) | omega), by rw [E.2.2.2]; exact (show (ce + 2) + 1 ≤ 601024 by first | (clear he18 he10; omega) | (clear he10; omega) | omega), by rw [E.2.2.2]; exact (show (sl + 12) + 12 ≤ 7293034 by first | (clear he18 he10; omega) | (clear he10; omega) | omega)⟩ (Nat.le_of_ble_eq_true rfl) (fun vv s19 hq => ?_) (fun ee s19 hq => ?_)
      rotate_left
      · obtain ⟨Is19, Fs19, JRLx_s19, e20, hv, hrs19, hps19⟩ := hq; cases hv
      obtain ⟨Is19, Fs19, JRLx_s19, e20, hv, hrs19, hps19⟩ := hq
      cases hv
      have Gs19 := fm_ts Gs11 Fs19 (by decide) (by decide)
      have JRLx_s19 : RLx s19 := RLx_fm Fs19 (by decide) JRLx_s11
      have ws19_70 : iI s19 70 = iI s11 70 := fm_i Fs19 (by decide)
      have ws19_107 : iI s19 107 = iI s11 107 := fm_i Fs19 (by decide)
      have ws19_12 : iI s19 12 = iI s11 12 := fm_i Fs19 (by decide)
      have ws19_89 : iI s19 89 = iI s11 89 := fm_i Fs19 (by decide)
      have wos19 : iO s19 = iO s11 := fm_o Fs19 (by decide)
      show WS k 1770 [(5, .int (Int32.ofInt e12)), (0, .ref q1), (1, .ref (A 0)), (2, .ref (A 179)), (3, .ref (A 517)), (4, .int (Int32.ofInt i))] [.int (Int32.ofInt e20)] (Wd A dT s19) ((ce + 2) + 1) ((sl + 12) + 12)
      refine z_store X (lv' := [(6, .int (Int32.ofInt e20)), (5, .int (Int32.ofInt e12)), (0, .ref q1), (1, .ref (A 0)), (2, .ref (A 179)), (3, .ref (A 517)), (4, .int (Int32.ofInt i))]) (show cdA 350 1770 = some (.istore 6, 2, 0, 0, 0) from rfl) (by decide) (fun _ h => h) ?_
      refine z_goto X (t := 1894) (show cdA 350 1772 = some (.goto 122, 3, 0, 0, 0) from rfl) (by decide) ?_
      refine w_widen (ce' := ce + 29) (sl' := sl + 222) (by first | (clear he18 he10; omega) | (clear he10; omega) | omega) (by first | (clear he18 he10; omega) | (clear he10; omega) | omega) ?_
      exact WS_lv (lv := [(0, .ref q1), (1, .ref (A 0)), (2, .ref (A 179)), (3, .ref (A 517)), (4, .int (Int32.ofInt i))]) (List.forall_mem_cons.mpr ⟨(List.Mem.tail _ (List.Mem.tail _ (List.Mem.head _))), (List.forall_mem_cons.mpr ⟨(List.Mem.tail _ (List.Mem.tail _ (List.Mem.tail _ (List.Mem.head _)))), (List.forall_mem_cons.mpr ⟨(List.Mem.tail _ (List.Mem.tail _ (List.Mem.tail _ (List.Mem.tail _ (List.Mem.head _))))), (List.forall_mem_cons.mpr ⟨(List.Mem.tail _ (List.Mem.tail _ (List.Mem.tail _ (List.Mem.tail _ (List.Mem.tail _ (List.Mem.head _)))))), (List.forall_mem_cons.mpr ⟨(List.Mem.tail _ (List.Mem.tail _ (List.Mem.tail _ (List.Mem.tail _ (List.Mem.tail _ (List.Mem.tail _ (List.Mem.head _))))))), (fun q h => absurd h List.not_mem_nil)⟩)⟩)⟩)⟩)⟩) (hk A _ Is19 JRLx_s19 (by first | (clear he18 he10; omega) | (clear he10; omega) | omega) (by first | (clear he18 he10; omega) | (clear he10; omega) | omega) (by first | (clear he18 he10; omega) | (clear he10; omega) | omega))
    refine z_if_eq X (t := 1766) (show cdA 350 1759 = some (.ifCond .eq 7, 3, 0, 0, 1) from rfl) (by decide) ⟨by first | exact sr16.1 | omega, by first | exact sr16.2 | omega⟩ (fun g21 => ?_) (fun g21 => ?_)
    ·
      refine z_const X (show cdA 350 1766 = some (.iconst 0, 1, 0, 0, 0) from rfl) ?_
      exact N17 _ (Or.inl ⟨g21, rfl⟩)
    ·
      refine z_const X (show cdA 350 1762 = some (.iconst 1, 1, 0, 0, 0) from rfl) ?_
      refine z_goto X (t := 1767) (show cdA 350 1763 = some (.goto 4, 3, 0, 0, 0) from rfl) (by decide) ?_
      exact N17 _ (Or.inr (⟨g21, rfl⟩))
  refine z_if_eq X (t := 1727) (show cdA 350 1720 = some (.ifCond .eq 7, 3, 0, 0, 1) from rfl) (by decide) ⟨by first | exact sr8.1 | omega, by first | exact sr8.2 | omega⟩ (fun g22 => ?_) (fun g22 => ?_)
  ·
    refine z_const X (show cdA 350 1727 = some (.iconst 0, 1, 0, 0, 0) from rfl) ?_
    exact N9 _ (Or.inl ⟨g22, rfl⟩)
  ·
    refine z_const X (show cdA 350 1723 = some (.iconst 1, 1, 0, 0, 0) from rfl) ?_
    refine z_goto X (t := 1728) (show cdA 350 1724 = some (.goto 4, 3, 0, 0, 0) from rfl) (by decide) ?_
    exact N9 _ (Or.inr (⟨g22, rfl⟩))
theorem lc_39 (G : GX l s0 D tys a0 dT) (GR : RS0 s0) (SF : SF0 s0) (GT : TXs0 s0) {k : kx_T} (X : AX k 350 dT) (E : kL k = l ∧ kS0 k = s0 ∧ kD k = D ∧ kR k = room_1) {q1 L : Nat} {xs : Nat → Int32} (S : SX k q1 L xs) (hL : L ≤ 3072) (I : Bd s) (jR : RLx s) (p1 : iI s 89 = 1) (p2 : iI s 12 ≤ 8) (p3 : iI s 70 = iI s 107) {i : Int} (hi : 0 ≤ i ∧ i + 6 ≤ (L : Int)) {ce sl : Nat} (hce : ce + 29 ≤ 601024) (hsl : sl + 222 ≤ 7293034) (hk : ∀ (A : Nat → Nat) (t : PS), Bd t → RLx t → iI t 89 = 1 → iI t 12 ≤ 8 → iI t 70 = iI t 107 → WS k 1894 [(0, .ref q1), (1, .ref (A 0)), (2, .ref (A 179)), (3, .ref (A 517)), (4, .int (Int32.ofInt i))] [] (Wd A dT t) (ce + 29) (sl + 222)) : WS k 1775 [(0, .ref q1), (1, .ref (A 0)), (2, .ref (A 179)), (3, .ref (A 517)), (4, .int (Int32.ofInt i))] [] (Wd A dT s) ce sl := by
  have F : Fm [22, 23, 24, 73, 77, 75, 78, 79, 80, 81] [33, 26, 27, 28, 29, 30, 31, 32, 20, 36, 37, 35, 21, 1022, 1023, 1460, 202, 204, 205, 206, 207, 208, 209, 210, 211, 212, 213, 214, 215, 216, 217, 218, 219, 220, 221, 222, 223, 224, 225, 226, 227, 203, 161, 230, 233, 228] s s := fm_rf _ _ s
  have b1 : (0 : Int) ≤ iI s 70 ∧ iI s 70 ≤ 40 := I.1 70
  have b2 : (0 : Int) ≤ iI s 107 ∧ iI s 107 ≤ 40 := I.1 107
  have b3 : (0 : Int) ≤ iI s 12 ∧ iI s 12 ≤ 9 := I.1 12
  have b4 : (1 : Int) ≤ iI s 89 ∧ iI s 89 ≤ 8 := I.1 89
  refine z_aload_n X (x := A 0) (show cdA 350 1775 = some (.aload_n 1, 1, 0, 0, 0) from rfl) (List.Mem.tail _ (List.Mem.head _)) ?_
  refine z_aload_n X (x := q1) (show cdA 350 1776 = some (.aload_n 0, 1, 0, 0, 0) from rfl) (List.Mem.head _) ?_
  refine z_load X (x := i) (show cdA 350 1777 = some (.iload 4, 2, 0, 0, 0) from rfl) (List.Mem.tail _ (List.Mem.tail _ (List.Mem.tail _ (List.Mem.tail _ (List.Mem.head _))))) ?_
  refine z_const X (show cdA 350 1779 = some (.iconst 1, 1, 0, 0, 0) from rfl) ?_
  refine z_add X (show cdA 350 1780 = some (.iadd, 1, 0, 0, 0) from rfl) ?_
  refine z_sld X S hL (show cdA 350 1781 = some (.iaload, 1, 0, 0, 0) from rfl) (show 0 ≤ (i + 1) ∧ (i + 1) < (L : Int) by omega) ?_
  have sr5 : rng (sc xs (i + 1)) := sc_rng
  refine z_aload_n X (x := q1) (show cdA 350 1782 = some (.aload_n 0, 1, 0, 0, 0) from rfl) (List.Mem.head _) ?_
  refine z_load X (x := i) (show cdA 350 1783 = some (.iload 4, 2, 0, 0, 0) from rfl) (List.Mem.tail _ (List.Mem.tail _ (List.Mem.tail _ (List.Mem.tail _ (List.Mem.head _))))) ?_
  refine z_const X (show cdA 350 1785 = some (.iconst 2, 1, 0, 0, 0) from rfl) ?_
  refine z_add X (show cdA 350 1786 = some (.iadd, 1, 0, 0, 0) from rfl) ?_
  refine z_sld X S hL (show cdA 350 1787 = some (.iaload, 1, 0, 0, 0) from rfl) (show 0 ≤ (i + 2) ∧ (i + 2) < (L : Int) by omega) ?_
  have sr6 : rng (sc xs (i + 2)) := sc_rng
  refine z_aload_n X (x := A 517) (show cdA 350 1788 = some (.aload_n 3, 1, 0, 0, 0) from rfl) (List.Mem.tail _ (List.Mem.tail _ (List.Mem.tail _ (List.Mem.head _)))) ?_
  refine z_callL X (rm := rmN 348) (As := [.ref (A 0), .int (Int32.ofInt (sc xs (i + 1))), .int (Int32.ofInt (sc xs (i + 2))), .ref (A 517)]) (st := []) (show cdA 350 1789 = some (.invokestatic 274, 3, 348, 6, 0) from rfl) (by decide) rfl (by rw [E.1, E.2.1, E.2.2.1]; exact lw_worth G I (by omega) (by omega)) ⟨by rw [E.2.2.2]; exact (show 13 + 1 ≤ 2048 by omega), by rw [E.2.2.2]; exact (show 8 + (5 + 11) + 262 ≤ 84000 by omega), by rw [E.2.2.2]; exact (show ce + 3 ≤ 601024 by omega), by rw [E.2.2.2]; exact (show sl + 18 ≤ 7293034 by omega)⟩ (Nat.le_of_ble_eq_true rfl) (fun vv A s7 hA2 hq => ?_) (fun ee A s7 hA2 hq => ?_)
  rotate_left
  · obtain ⟨Is7, Fs7, e8, hv, hrs7, hps7⟩ := hq; cases hv
  obtain ⟨Is7, Fs7, e8, hv, hrs7, hps7⟩ := hq
  cases hv
  rw [← hA2 0 (by decide)]
  rw [← hA2 179 (by decide)]
  rw [← hA2 517 (by decide)]
  have Gs7 := fm_ts F Fs7 (by decide) (by decide)
  have JRLx_s7 : RLx s7 := RLx_fm Fs7 (by decide) jR
  have ws7_70 : iI s7 70 = iI s 70 := fm_i Fs7 (by decide)
  have ws7_107 : iI s7 107 = iI s 107 := fm_i Fs7 (by decide)
  have ws7_12 : iI s7 12 = iI s 12 := fm_i Fs7 (by decide)
  have ws7_89 : iI s7 89 = iI s 89 := fm_i Fs7 (by decide)
  show WS k 1792 [(0, .ref q1), (1, .ref (A 0)), (2, .ref (A 179)), (3, .ref (A 517)), (4, .int (Int32.ofInt i))] [.int (Int32.ofInt e8)] (Wd A dT s7) (ce + 3) (sl + 18)
  refine z_store X (lv' := [(5, .int (Int32.ofInt e8)), (0, .ref q1), (1, .ref (A 0)), (2, .ref (A 179)), (3, .ref (A 517)), (4, .int (Int32.ofInt i))]) (show cdA 350 1792 = some (.istore 5, 2, 0, 0, 0) from rfl) (by decide) (fun _ h => h) ?_
  refine z_aload_n X (x := A 179) (show cdA 350 1794 = some (.aload_n 2, 1, 0, 0, 0) from rfl) (List.Mem.tail _ (List.Mem.tail _ (List.Mem.tail _ (List.Mem.head _)))) ?_
  refine z_aload_n X (x := q1) (show cdA 350 1795 = some (.aload_n 0, 1, 0, 0, 0) from rfl) (List.Mem.tail _ (List.Mem.head _)) ?_
  refine z_load X (x := i) (show cdA 350 1796 = some (.iload 4, 2, 0, 0, 0) from rfl) (List.Mem.tail _ (List.Mem.tail _ (List.Mem.tail _ (List.Mem.tail _ (List.Mem.tail _ (List.Mem.head _)))))) ?_
  refine z_const X (show cdA 350 1798 = some (.iconst 1, 1, 0, 0, 0) from rfl) ?_
  refine z_add X (show cdA 350 1799 = some (.iadd, 1, 0, 0, 0) from rfl) ?_
  refine z_sld X S hL (show cdA 350 1800 = some (.iaload, 1, 0, 0, 0) from rfl) (show 0 ≤ (i + 1) ∧ (i + 1) < (L : Int) by omega) ?_
  have sr9 : rng (sc xs (i + 1)) := sc_rng
  refine z_aload_n X (x := q1) (show cdA 350 1801 = some (.aload_n 0, 1, 0, 0, 0) from rfl) (List.Mem.tail _ (List.Mem.head _)) ?_
  refine z_load X (x := i) (show cdA 350 1802 = some (.iload 4, 2, 0, 0, 0) from rfl) (List.Mem.tail _ (List.Mem.tail _ (List.Mem.tail _ (List.Mem.tail _ (List.Mem.tail _ (List.Mem.head _)))))) ?_
  refine z_const X (show cdA 350 1804 = some (.iconst 2, 1, 0, 0, 0) from rfl) ?_
  refine z_add X (show cdA 350 1805 = some (.iadd, 1, 0, 0, 0) from rfl) ?_
  refine z_sld X S hL (show cdA 350 1806 = some (.iaload, 1, 0, 0, 0) from rfl) (show 0 ≤ (i + 2) ∧ (i + 2) < (L : Int) by omega) ?_
  have sr10 : rng (sc xs (i + 2)) := sc_rng
  refine z_callV X 179 (rm := rmN 291) (As := [.int (Int32.ofInt (sc xs (i + 1))), .int (Int32.ofInt (sc xs (i + 2)))]) (st := []) (show cdA 350 1807 = some (.invokevirtual 276, 3, 291, 0, 0) from rfl) rfl (by decide) rfl (by rw [E.1, E.2.1, E.2.2.1]; exact k_worth G Is7 JRLx_s7 (by first | exact ⟨sr9.1, sr9.2⟩ | omega) (by first | exact ⟨sr10.1, sr10.2⟩ | omega)) ⟨by rw [E.2.2.2]; exact (show 41 + 1 ≤ 2048 by omega), by rw [E.2.2.2]; exact (show 8 + (6 + 11) + 1663 ≤ 84000 by omega), by rw [E.2.2.2]; exact (show (ce + 3) + 0 ≤ 601024 by omega), by rw [E.2.2.2]; exact (show (sl + 18) + 0 ≤ 7293034 by omega)⟩ (Nat.le_of_ble_eq_true rfl) (fun vv s11 hq => ?_) (fun ee s11 hq => ?_)
  rotate_left
  · obtain ⟨Is11, Fs11, JRLx_s11, e12, hv, hrs11, hps11⟩ := hq; cases hv
  obtain ⟨Is11, Fs11, JRLx_s11, e12, hv, hrs11, hps11⟩ := hq
  cases hv
  have Gs11 := fm_ts Gs7 Fs11 (by decide) (by decide)
  have JRLx_s11 : RLx s11 := RLx_fm Fs11 (by decide) JRLx_s7
  have ws11_70 : iI s11 70 = iI s7 70 := fm_i Fs11 (by decide)
  have ws11_107 : iI s11 107 = iI s7 107 := fm_i Fs11 (by decide)
  have ws11_12 : iI s11 12 = iI s7 12 := fm_i Fs11 (by decide)
  have ws11_89 : iI s11 89 = iI s7 89 := fm_i Fs11 (by decide)
  have wos11 : iO s11 = iO s7 := fm_o Fs11 (by decide)
  show WS k 1810 [(5, .int (Int32.ofInt e8)), (0, .ref q1), (1, .ref (A 0)), (2, .ref (A 179)), (3, .ref (A 517)), (4, .int (Int32.ofInt i))] [.int (Int32.ofInt e12)] (Wd A dT s11) (ce + 3) (sl + 18)
  refine z_store X (lv' := [(6, .int (Int32.ofInt e12)), (5, .int (Int32.ofInt e8)), (0, .ref q1), (1, .ref (A 0)), (2, .ref (A 179)), (3, .ref (A 517)), (4, .int (Int32.ofInt i))]) (show cdA 350 1810 = some (.istore 6, 2, 0, 0, 0) from rfl) (by decide) (fun _ h => h) ?_
  refine z_goto X (t := 1894) (show cdA 350 1812 = some (.goto 82, 3, 0, 0, 0) from rfl) (by decide) ?_
  refine w_widen (ce' := ce + 29) (sl' := sl + 222) (by omega) (by omega) ?_
  exact WS_lv (lv := [(0, .ref q1), (1, .ref (A 0)), (2, .ref (A 179)), (3, .ref (A 517)), (4, .int (Int32.ofInt i))]) (List.forall_mem_cons.mpr ⟨(List.Mem.tail _ (List.Mem.tail _ (List.Mem.head _))), (List.forall_mem_cons.mpr ⟨(List.Mem.tail _ (List.Mem.tail _ (List.Mem.tail _ (List.Mem.head _)))), (List.forall_mem_cons.mpr ⟨(List.Mem.tail _ (List.Mem.tail _ (List.Mem.tail _ (List.Mem.tail _ (List.Mem.head _))))), (List.forall_mem_cons.mpr ⟨(List.Mem.tail _ (List.Mem.tail _ (List.Mem.tail _ (List.Mem.tail _ (List.Mem.tail _ (List.Mem.head _)))))), (List.forall_mem_cons.mpr ⟨(List.Mem.tail _ (List.Mem.tail _ (List.Mem.tail _ (List.Mem.tail _ (List.Mem.tail _ (List.Mem.tail _ (List.Mem.head _))))))), (fun q h => absurd h List.not_mem_nil)⟩)⟩)⟩)⟩)⟩) (hk A _ Is11 JRLx_s11 (by omega) (by omega) (by omega))
theorem lc_40 (G : GX l s0 D tys a0 dT) (GR : RS0 s0) (SF : SF0 s0) (GT : TXs0 s0) {k : kx_T} (X : AX k 350 dT) (E : kL k = l ∧ kS0 k = s0 ∧ kD k = D ∧ kR k = room_1) {q1 L : Nat} {xs : Nat → Int32} (S : SX k q1 L xs) (hL : L ≤ 3072) (I : Bd s) (jR : RLx s) (p1 : iI s 89 = 1) (p2 : iI s 12 ≤ 8) (p3 : iI s 70 = iI s 107) {i : Int} (hi : 0 ≤ i ∧ i + 6 ≤ (L : Int)) {ce sl : Nat} (hce : ce + 29 ≤ 601024) (hsl : sl + 222 ≤ 7293034) (hk : ∀ (A : Nat → Nat) (t : PS), Bd t → RLx t → iI t 89 = 1 → iI t 12 ≤ 8 → iI t 70 = iI t 107 → WS k 1894 [(0, .ref q1), (1, .ref (A 0)), (2, .ref (A 179)), (3, .ref (A 517)), (4, .int (Int32.ofInt i))] [] (Wd A dT t) (ce + 29) (sl + 222)) : WS k 1815 [(0, .ref q1), (1, .ref (A 0)), (2, .ref (A 179)), (3, .ref (A 517)), (4, .int (Int32.ofInt i))] [] (Wd A dT s) ce sl := by
  have F : Fm [73] [1460] s s := fm_rf _ _ s
  have b1 : (0 : Int) ≤ iI s 70 ∧ iI s 70 ≤ 40 := I.1 70
  have b2 : (0 : Int) ≤ iI s 107 ∧ iI s 107 ≤ 40 := I.1 107
  have b3 : (0 : Int) ≤ iI s 12 ∧ iI s 12 ≤ 9 := I.1 12
  have b4 : (1 : Int) ≤ iI s 89 ∧ iI s 89 ≤ 8 := I.1 89
  refine z_aload_n X (x := A 0) (show cdA 350 1815 = some (.aload_n 1, 1, 0, 0, 0) from rfl) (List.Mem.tail _ (List.Mem.head _)) ?_
  refine z_aload_n X (x := q1) (show cdA 350 1816 = some (.aload_n 0, 1, 0, 0, 0) from rfl) (List.Mem.head _) ?_
  refine z_load X (x := i) (show cdA 350 1817 = some (.iload 4, 2, 0, 0, 0) from rfl) (List.Mem.tail _ (List.Mem.tail _ (List.Mem.tail _ (List.Mem.tail _ (List.Mem.head _))))) ?_
  refine z_const X (show cdA 350 1819 = some (.iconst 1, 1, 0, 0, 0) from rfl) ?_
  refine z_add X (show cdA 350 1820 = some (.iadd, 1, 0, 0, 0) from rfl) ?_
  refine z_sld X S hL (show cdA 350 1821 = some (.iaload, 1, 0, 0, 0) from rfl) (show 0 ≤ (i + 1) ∧ (i + 1) < (L : Int) by omega) ?_
  have sr5 : rng (sc xs (i + 1)) := sc_rng
  refine z_aload_n X (x := A 517) (show cdA 350 1822 = some (.aload_n 3, 1, 0, 0, 0) from rfl) (List.Mem.tail _ (List.Mem.tail _ (List.Mem.tail _ (List.Mem.head _)))) ?_
  refine z_callL X (rm := rmN 349) (As := [.ref (A 0), .int (Int32.ofInt (sc xs (i + 1))), .ref (A 517)]) (st := []) (show cdA 350 1823 = some (.invokestatic 277, 3, 349, 6, 0) from rfl) (by decide) rfl (by rw [E.1, E.2.1, E.2.2.1]; exact lw_quiet G I (by omega)) ⟨by rw [E.2.2.2]; exact (show 9 + 1 ≤ 2048 by omega), by rw [E.2.2.2]; exact (show 8 + (4 + 11) + 166 ≤ 84000 by omega), by rw [E.2.2.2]; exact (show ce + 1 ≤ 601024 by omega), by rw [E.2.2.2]; exact (show sl + 6 ≤ 7293034 by omega)⟩ (Nat.le_of_ble_eq_true rfl) (fun vv A s6 hA2 hq => ?_) (fun ee A s6 hA2 hq => ?_)
  rotate_left
  · obtain ⟨Is6, Fs6, e7, hv, hrs6, hps6⟩ := hq; cases hv
  obtain ⟨Is6, Fs6, e7, hv, hrs6, hps6⟩ := hq
  cases hv
  rw [← hA2 0 (by decide)]
  rw [← hA2 179 (by decide)]
  rw [← hA2 517 (by decide)]
  have Gs6 := fm_ts F Fs6 (by decide) (by decide)
  have JRLx_s6 : RLx s6 := RLx_fm Fs6 (by decide) jR
  have ws6_70 : iI s6 70 = iI s 70 := fm_i Fs6 (by decide)
  have ws6_107 : iI s6 107 = iI s 107 := fm_i Fs6 (by decide)
  have ws6_12 : iI s6 12 = iI s 12 := fm_i Fs6 (by decide)
  have ws6_89 : iI s6 89 = iI s 89 := fm_i Fs6 (by decide)
  show WS k 1826 [(0, .ref q1), (1, .ref (A 0)), (2, .ref (A 179)), (3, .ref (A 517)), (4, .int (Int32.ofInt i))] [.int (Int32.ofInt e7)] (Wd A dT s6) (ce + 1) (sl + 6)
  refine z_store X (lv' := [(5, .int (Int32.ofInt e7)), (0, .ref q1), (1, .ref (A 0)), (2, .ref (A 179)), (3, .ref (A 517)), (4, .int (Int32.ofInt i))]) (show cdA 350 1826 = some (.istore 5, 2, 0, 0, 0) from rfl) (by decide) (fun _ h => h) ?_
  refine z_aload_n X (x := A 179) (show cdA 350 1828 = some (.aload_n 2, 1, 0, 0, 0) from rfl) (List.Mem.tail _ (List.Mem.tail _ (List.Mem.tail _ (List.Mem.head _)))) ?_
  refine z_aload_n X (x := q1) (show cdA 350 1829 = some (.aload_n 0, 1, 0, 0, 0) from rfl) (List.Mem.tail _ (List.Mem.head _)) ?_
  refine z_load X (x := i) (show cdA 350 1830 = some (.iload 4, 2, 0, 0, 0) from rfl) (List.Mem.tail _ (List.Mem.tail _ (List.Mem.tail _ (List.Mem.tail _ (List.Mem.tail _ (List.Mem.head _)))))) ?_
  refine z_const X (show cdA 350 1832 = some (.iconst 1, 1, 0, 0, 0) from rfl) ?_
  refine z_add X (show cdA 350 1833 = some (.iadd, 1, 0, 0, 0) from rfl) ?_
  refine z_sld X S hL (show cdA 350 1834 = some (.iaload, 1, 0, 0, 0) from rfl) (show 0 ≤ (i + 1) ∧ (i + 1) < (L : Int) by omega) ?_
  have sr8 : rng (sc xs (i + 1)) := sc_rng
  refine z_callV X 179 (rm := rmN 292) (As := [.int (Int32.ofInt (sc xs (i + 1)))]) (st := []) (show cdA 350 1835 = some (.invokevirtual 279, 3, 292, 0, 0) from rfl) rfl (by decide) rfl (by rw [E.1, E.2.1, E.2.2.1]; exact k_quiet G Is6 (by first | exact ⟨sr8.1, sr8.2⟩ | omega)) ⟨by rw [E.2.2.2]; exact (show 7 + 1 ≤ 2048 by omega), by rw [E.2.2.2]; exact (show 8 + (4 + 11) + 123 ≤ 84000 by omega), by rw [E.2.2.2]; exact (show (ce + 1) + 0 ≤ 601024 by omega), by rw [E.2.2.2]; exact (show (sl + 6) + 0 ≤ 7293034 by omega)⟩ (Nat.le_of_ble_eq_true rfl) (fun vv s9 hq => ?_) (fun ee s9 hq => ?_)
  rotate_left
  · obtain ⟨Is9, Fs9, e10, hv, hrs9, hps9⟩ := hq; cases hv
  obtain ⟨Is9, Fs9, e10, hv, hrs9, hps9⟩ := hq
  cases hv
  have Gs9 := fm_ts Gs6 Fs9 (by decide) (by decide)
  have JRLx_s9 : RLx s9 := RLx_fm Fs9 (by decide) JRLx_s6
  have ws9_70 : iI s9 70 = iI s6 70 := fm_i Fs9 (by decide)
  have ws9_107 : iI s9 107 = iI s6 107 := fm_i Fs9 (by decide)
  have ws9_12 : iI s9 12 = iI s6 12 := fm_i Fs9 (by decide)
  have ws9_89 : iI s9 89 = iI s6 89 := fm_i Fs9 (by decide)
  have wos9 : iO s9 = iO s6 := fm_o Fs9 (by decide)
  show WS k 1838 [(5, .int (Int32.ofInt e7)), (0, .ref q1), (1, .ref (A 0)), (2, .ref (A 179)), (3, .ref (A 517)), (4, .int (Int32.ofInt i))] [.int (Int32.ofInt e10)] (Wd A dT s9) (ce + 1) (sl + 6)
  refine z_store X (lv' := [(6, .int (Int32.ofInt e10)), (5, .int (Int32.ofInt e7)), (0, .ref q1), (1, .ref (A 0)), (2, .ref (A 179)), (3, .ref (A 517)), (4, .int (Int32.ofInt i))]) (show cdA 350 1838 = some (.istore 6, 2, 0, 0, 0) from rfl) (by decide) (fun _ h => h) ?_
  refine z_goto X (t := 1894) (show cdA 350 1840 = some (.goto 54, 3, 0, 0, 0) from rfl) (by decide) ?_
  refine w_widen (ce' := ce + 29) (sl' := sl + 222) (by omega) (by omega) ?_
  exact WS_lv (lv := [(0, .ref q1), (1, .ref (A 0)), (2, .ref (A 179)), (3, .ref (A 517)), (4, .int (Int32.ofInt i))]) (List.forall_mem_cons.mpr ⟨(List.Mem.tail _ (List.Mem.tail _ (List.Mem.head _))), (List.forall_mem_cons.mpr ⟨(List.Mem.tail _ (List.Mem.tail _ (List.Mem.tail _ (List.Mem.head _)))), (List.forall_mem_cons.mpr ⟨(List.Mem.tail _ (List.Mem.tail _ (List.Mem.tail _ (List.Mem.tail _ (List.Mem.head _))))), (List.forall_mem_cons.mpr ⟨(List.Mem.tail _ (List.Mem.tail _ (List.Mem.tail _ (List.Mem.tail _ (List.Mem.tail _ (List.Mem.head _)))))), (List.forall_mem_cons.mpr ⟨(List.Mem.tail _ (List.Mem.tail _ (List.Mem.tail _ (List.Mem.tail _ (List.Mem.tail _ (List.Mem.tail _ (List.Mem.head _))))))), (fun q h => absurd h List.not_mem_nil)⟩)⟩)⟩)⟩)⟩) (hk A _ Is9 JRLx_s9 (by omega) (by omega) (by omega))
theorem lc_41 (G : GX l s0 D tys a0 dT) (GR : RS0 s0) (SF : SF0 s0) (GT : TXs0 s0) {k : kx_T} (X : AX k 350 dT) (E : kL k = l ∧ kS0 k = s0 ∧ kD k = D ∧ kR k = room_1) {q1 L : Nat} {xs : Nat → Int32} (S : SX k q1 L xs) (hL : L ≤ 3072) (I : Bd s) (jR : RLx s) (p1 : iI s 89 = 1) (p2 : iI s 12 ≤ 8) (p3 : iI s 70 = iI s 107) {i : Int} (hi : 0 ≤ i ∧ i + 6 ≤ (L : Int)) {ce sl : Nat} (hce : ce + 29 ≤ 601024) (hsl : sl + 222 ≤ 7293034) (hk : ∀ (A : Nat → Nat) (t : PS), Bd t → RLx t → iI t 89 = 1 → iI t 12 ≤ 8 → iI t 70 = iI t 107 → WS k 1894 [(0, .ref q1), (1, .ref (A 0)), (2, .ref (A 179)), (3, .ref (A 517)), (4, .int (Int32.ofInt i))] [] (Wd A dT t) (ce + 29) (sl + 222)) : WS k 1843 [(0, .ref q1), (1, .ref (A 0)), (2, .ref (A 179)), (3, .ref (A 517)), (4, .int (Int32.ofInt i))] [] (Wd A dT s) ce sl := by
  have F : Fm [20, 73, 98] [25, 241, 242, 243, 244] s s := fm_rf _ _ s
  have b1 : (0 : Int) ≤ iI s 70 ∧ iI s 70 ≤ 40 := I.1 70
  have b2 : (0 : Int) ≤ iI s 107 ∧ iI s 107 ≤ 40 := I.1 107
  have b3 : (0 : Int) ≤ iI s 12 ∧ iI s 12 ≤ 9 := I.1 12
  have b4 : (1 : Int) ≤ iI s 89 ∧ iI s 89 ≤ 8 := I.1 89
  refine z_aload_n X (x := A 0) (show cdA 350 1843 = some (.aload_n 1, 1, 0, 0, 0) from rfl) (List.Mem.tail _ (List.Mem.head _)) ?_
  refine z_callV X 0 (rm := rmN 176) (As := []) (st := []) (show cdA 350 1844 = some (.invokevirtual 280, 3, 176, 0, 0) from rfl) rfl (by decide) rfl (by rw [E.1, E.2.1, E.2.2.1]; exact cs_mark G I ) ⟨by rw [E.2.2.2]; exact (show 7 + 1 ≤ 2048 by omega), by rw [E.2.2.2]; exact (show 8 + (1 + 11) + 120 ≤ 84000 by omega), by rw [E.2.2.2]; exact (show ce + 0 ≤ 601024 by omega), by rw [E.2.2.2]; exact (show sl + 0 ≤ 7293034 by omega)⟩ (Nat.le_of_ble_eq_true rfl) (fun vv s5 hq => ?_) (fun ee s5 hq => ?_)
  rotate_left
  · obtain ⟨Is5, Fs5, e6, hv, hrs5, hps5⟩ := hq; cases hv
  obtain ⟨Is5, Fs5, e6, hv, hrs5, hps5⟩ := hq
  cases hv
  have Gs5 := fm_ts F Fs5 (by decide) (by decide)
  have JRLx_s5 : RLx s5 := RLx_fm Fs5 (by decide) jR
  have ws5_70 : iI s5 70 = iI s 70 := fm_i Fs5 (by decide)
  have ws5_107 : iI s5 107 = iI s 107 := fm_i Fs5 (by decide)
  have ws5_12 : iI s5 12 = iI s 12 := fm_i Fs5 (by decide)
  have ws5_89 : iI s5 89 = iI s 89 := fm_i Fs5 (by decide)
  have wos5 : iO s5 = iO s := fm_o Fs5 (by decide)
  show WS k 1847 [(0, .ref q1), (1, .ref (A 0)), (2, .ref (A 179)), (3, .ref (A 517)), (4, .int (Int32.ofInt i))] [.int (Int32.ofInt e6)] (Wd A dT s5) ce sl
  refine w_pop X.1 (ax_d X (show cdA 350 1847 = some (.pop, 1, 0, 0, 0) from rfl)) rfl ?_
  refine z_aload_n X (x := A 179) (show cdA 350 1848 = some (.aload_n 2, 1, 0, 0, 0) from rfl) (List.Mem.tail _ (List.Mem.tail _ (List.Mem.head _))) ?_
  refine z_callV X 179 (rm := rmN 293) (As := []) (st := []) (show cdA 350 1849 = some (.invokevirtual 283, 3, 293, 0, 0) from rfl) rfl (by decide) rfl (by rw [E.1, E.2.1, E.2.2.1]; exact k_mark G Is5 ) ⟨by rw [E.2.2.2]; exact (show 6 + 1 ≤ 2048 by omega), by rw [E.2.2.2]; exact (show 8 + (2 + 11) + 100 ≤ 84000 by omega), by rw [E.2.2.2]; exact (show ce + 0 ≤ 601024 by omega), by rw [E.2.2.2]; exact (show sl + 0 ≤ 7293034 by omega)⟩ (Nat.le_of_ble_eq_true rfl) (fun vv s7 hq => ?_) (fun ee s7 hq => ?_)
  rotate_left
  · obtain ⟨Is7, Fs7, e8, hv, hrs7, hps7⟩ := hq; cases hv
  obtain ⟨Is7, Fs7, e8, hv, hrs7, hps7⟩ := hq
  cases hv
  have Gs7 := fm_ts Gs5 Fs7 (by decide) (by decide)
  have JRLx_s7 : RLx s7 := RLx_fm Fs7 (by decide) JRLx_s5
  have ws7_70 : iI s7 70 = iI s5 70 := fm_i Fs7 (by decide)
  have ws7_107 : iI s7 107 = iI s5 107 := fm_i Fs7 (by decide)
  have ws7_12 : iI s7 12 = iI s5 12 := fm_i Fs7 (by decide)
  have ws7_89 : iI s7 89 = iI s5 89 := fm_i Fs7 (by decide)
  have wos7 : iO s7 = iO s5 := fm_o Fs7 (by decide)
  show WS k 1852 [(0, .ref q1), (1, .ref (A 0)), (2, .ref (A 179)), (3, .ref (A 517)), (4, .int (Int32.ofInt i))] [.int (Int32.ofInt e8)] (Wd A dT s7) ce sl
  refine w_pop X.1 (ax_d X (show cdA 350 1852 = some (.pop, 1, 0, 0, 0) from rfl)) rfl ?_
  refine z_goto X (t := 1894) (show cdA 350 1853 = some (.goto 41, 3, 0, 0, 0) from rfl) (by decide) ?_
  refine w_widen (ce' := ce + 29) (sl' := sl + 222) (by omega) (by omega) ?_
  exact WS_lv (lv := [(0, .ref q1), (1, .ref (A 0)), (2, .ref (A 179)), (3, .ref (A 517)), (4, .int (Int32.ofInt i))]) (List.forall_mem_cons.mpr ⟨(List.Mem.head _), (List.forall_mem_cons.mpr ⟨(List.Mem.tail _ (List.Mem.head _)), (List.forall_mem_cons.mpr ⟨(List.Mem.tail _ (List.Mem.tail _ (List.Mem.head _))), (List.forall_mem_cons.mpr ⟨(List.Mem.tail _ (List.Mem.tail _ (List.Mem.tail _ (List.Mem.head _)))), (List.forall_mem_cons.mpr ⟨(List.Mem.tail _ (List.Mem.tail _ (List.Mem.tail _ (List.Mem.tail _ (List.Mem.head _))))), (fun q h => absurd h List.not_mem_nil)⟩)⟩)⟩)⟩)⟩) (hk A _ Is7 JRLx_s7 (by omega) (by omega) (by omega))
theorem lc_42 (G : GX l s0 D tys a0 dT) (GR : RS0 s0) (SF : SF0 s0) (GT : TXs0 s0) {k : kx_T} (X : AX k 350 dT) (E : kL k = l ∧ kS0 k = s0 ∧ kD k = D ∧ kR k = room_1) {q1 L : Nat} {xs : Nat → Int32} (S : SX k q1 L xs) (hL : L ≤ 3072) (I : Bd s) (jR : RLx s) (p1 : iI s 89 = 1) (p2 : iI s 12 ≤ 8) (p3 : iI s 70 = iI s 107) {i : Int} (hi : 0 ≤ i ∧ i + 6 ≤ (L : Int)) {ce sl : Nat} (hce : ce + 29 ≤ 601024) (hsl : sl + 222 ≤ 7293034) (hk : ∀ (A : Nat → Nat) (t : PS), Bd t → RLx t → iI t 89 = 1 → iI t 12 ≤ 8 → iI t 70 = iI t 107 → WS k 1894 [(0, .ref q1), (1, .ref (A 0)), (2, .ref (A 179)), (3, .ref (A 517)), (4, .int (Int32.ofInt i))] [] (Wd A dT t) (ce + 29) (sl + 222)) : WS k 1856 [(0, .ref q1), (1, .ref (A 0)), (2, .ref (A 179)), (3, .ref (A 517)), (4, .int (Int32.ofInt i))] [] (Wd A dT s) ce sl := by
  have F : Fm [20, 73, 98] [21, 1022, 1023, 228] s s := fm_rf _ _ s
  have b1 : (0 : Int) ≤ iI s 70 ∧ iI s 70 ≤ 40 := I.1 70
  have b2 : (0 : Int) ≤ iI s 107 ∧ iI s 107 ≤ 40 := I.1 107
  have b3 : (0 : Int) ≤ iI s 12 ∧ iI s 12 ≤ 9 := I.1 12
  have b4 : (1 : Int) ≤ iI s 89 ∧ iI s 89 ≤ 8 := I.1 89
  refine z_aload_n X (x := A 0) (show cdA 350 1856 = some (.aload_n 1, 1, 0, 0, 0) from rfl) (List.Mem.tail _ (List.Mem.head _)) ?_
  refine z_callV X 0 (rm := rmN 177) (As := []) (st := []) (show cdA 350 1857 = some (.invokevirtual 284, 3, 177, 0, 0) from rfl) rfl (by decide) rfl (by rw [E.1, E.2.1, E.2.2.1]; exact cs_back G I ) ⟨by rw [E.2.2.2]; exact (show 8 + 1 ≤ 2048 by omega), by rw [E.2.2.2]; exact (show 8 + (1 + 11) + 147 ≤ 84000 by omega), by rw [E.2.2.2]; exact (show ce + 0 ≤ 601024 by omega), by rw [E.2.2.2]; exact (show sl + 0 ≤ 7293034 by omega)⟩ (Nat.le_of_ble_eq_true rfl) (fun vv s5 hq => ?_) (fun ee s5 hq => ?_)
  rotate_left
  · obtain ⟨Is5, Fs5, e6, hv, hrs5, hps5⟩ := hq; cases hv
  obtain ⟨Is5, Fs5, e6, hv, hrs5, hps5⟩ := hq
  cases hv
  have Gs5 := fm_ts F Fs5 (by decide) (by decide)
  have JRLx_s5 : RLx s5 := RLx_fm Fs5 (by decide) jR
  have ws5_70 : iI s5 70 = iI s 70 := fm_i Fs5 (by decide)
  have ws5_107 : iI s5 107 = iI s 107 := fm_i Fs5 (by decide)
  have ws5_12 : iI s5 12 = iI s 12 := fm_i Fs5 (by decide)
  have ws5_89 : iI s5 89 = iI s 89 := fm_i Fs5 (by decide)
  have wos5 : iO s5 = iO s := fm_o Fs5 (by decide)
  show WS k 1860 [(0, .ref q1), (1, .ref (A 0)), (2, .ref (A 179)), (3, .ref (A 517)), (4, .int (Int32.ofInt i))] [.int (Int32.ofInt e6)] (Wd A dT s5) ce sl
  refine w_pop X.1 (ax_d X (show cdA 350 1860 = some (.pop, 1, 0, 0, 0) from rfl)) rfl ?_
  refine z_aload_n X (x := A 179) (show cdA 350 1861 = some (.aload_n 2, 1, 0, 0, 0) from rfl) (List.Mem.tail _ (List.Mem.tail _ (List.Mem.head _))) ?_
  refine z_callV X 179 (rm := rmN 294) (As := []) (st := []) (show cdA 350 1862 = some (.invokevirtual 287, 3, 294, 0, 0) from rfl) rfl (by decide) rfl (by rw [E.1, E.2.1, E.2.2.1]; exact k_back G Is5 ) ⟨by rw [E.2.2.2]; exact (show 6 + 1 ≤ 2048 by omega), by rw [E.2.2.2]; exact (show 8 + (2 + 11) + 100 ≤ 84000 by omega), by rw [E.2.2.2]; exact (show ce + 0 ≤ 601024 by omega), by rw [E.2.2.2]; exact (show sl + 0 ≤ 7293034 by omega)⟩ (Nat.le_of_ble_eq_true rfl) (fun vv s7 hq => ?_) (fun ee s7 hq => ?_)
  rotate_left
  · obtain ⟨Is7, Fs7, e8, hv, hrs7, hps7⟩ := hq; cases hv
  obtain ⟨Is7, Fs7, e8, hv, hrs7, hps7⟩ := hq
  cases hv
  have Gs7 := fm_ts Gs5 Fs7 (by decide) (by decide)
  have JRLx_s7 : RLx s7 := RLx_fm Fs7 (by decide) JRLx_s5
  have ws7_70 : iI s7 70 = iI s5 70 := fm_i Fs7 (by decide)
  have ws7_107 : iI s7 107 = iI s5 107 := fm_i Fs7 (by decide)
  have ws7_12 : iI s7 12 = iI s5 12 := fm_i Fs7 (by decide)
  have ws7_89 : iI s7 89 = iI s5 89 := fm_i Fs7 (by decide)
  have wos7 : iO s7 = iO s5 := fm_o Fs7 (by decide)
  show WS k 1865 [(0, .ref q1), (1, .ref (A 0)), (2, .ref (A 179)), (3, .ref (A 517)), (4, .int (Int32.ofInt i))] [.int (Int32.ofInt e8)] (Wd A dT s7) ce sl
  refine w_pop X.1 (ax_d X (show cdA 350 1865 = some (.pop, 1, 0, 0, 0) from rfl)) rfl ?_
  refine z_goto X (t := 1894) (show cdA 350 1866 = some (.goto 28, 3, 0, 0, 0) from rfl) (by decide) ?_
  refine w_widen (ce' := ce + 29) (sl' := sl + 222) (by omega) (by omega) ?_
  exact WS_lv (lv := [(0, .ref q1), (1, .ref (A 0)), (2, .ref (A 179)), (3, .ref (A 517)), (4, .int (Int32.ofInt i))]) (List.forall_mem_cons.mpr ⟨(List.Mem.head _), (List.forall_mem_cons.mpr ⟨(List.Mem.tail _ (List.Mem.head _)), (List.forall_mem_cons.mpr ⟨(List.Mem.tail _ (List.Mem.tail _ (List.Mem.head _))), (List.forall_mem_cons.mpr ⟨(List.Mem.tail _ (List.Mem.tail _ (List.Mem.tail _ (List.Mem.head _)))), (List.forall_mem_cons.mpr ⟨(List.Mem.tail _ (List.Mem.tail _ (List.Mem.tail _ (List.Mem.tail _ (List.Mem.head _))))), (fun q h => absurd h List.not_mem_nil)⟩)⟩)⟩)⟩)⟩) (hk A _ Is7 JRLx_s7 (by omega) (by omega) (by omega))
theorem lc_43 (G : GX l s0 D tys a0 dT) (GR : RS0 s0) (SF : SF0 s0) (GT : TXs0 s0) {k : kx_T} (X : AX k 350 dT) (E : kL k = l ∧ kS0 k = s0 ∧ kD k = D ∧ kR k = room_1) {q1 L : Nat} {xs : Nat → Int32} (S : SX k q1 L xs) (hL : L ≤ 3072) (I : Bd s) (jR : RLx s) (p1 : iI s 89 = 1) (p2 : iI s 12 ≤ 8) (p3 : iI s 70 = iI s 107) {i : Int} (hi : 0 ≤ i ∧ i + 6 ≤ (L : Int)) {ce sl : Nat} (hce : ce + 29 ≤ 601024) (hsl : sl + 222 ≤ 7293034) (hk : ∀ (A : Nat → Nat) (t : PS), Bd t → RLx t → iI t 89 = 1 → iI t 12 ≤ 8 → iI t 70 = iI t 107 → WS k 1894 [(0, .ref q1), (1, .ref (A 0)), (2, .ref (A 179)), (3, .ref (A 517)), (4, .int (Int32.ofInt i))] [] (Wd A dT t) (ce + 29) (sl + 222)) : WS k 1869 [(0, .ref q1), (1, .ref (A 0)), (2, .ref (A 179)), (3, .ref (A 517)), (4, .int (Int32.ofInt i))] [] (Wd A dT s) ce sl := by
  have F : Fm [73] [] s s := fm_rf _ _ s
  have b1 : (0 : Int) ≤ iI s 70 ∧ iI s 70 ≤ 40 := I.1 70
  have b2 : (0 : Int) ≤ iI s 107 ∧ iI s 107 ≤ 40 := I.1 107
  have b3 : (0 : Int) ≤ iI s 12 ∧ iI s 12 ≤ 9 := I.1 12
  have b4 : (1 : Int) ≤ iI s 89 ∧ iI s 89 ≤ 8 := I.1 89
  refine z_aload_n X (x := A 0) (show cdA 350 1869 = some (.aload_n 1, 1, 0, 0, 0) from rfl) (List.Mem.tail _ (List.Mem.head _)) ?_
  refine z_aload_n X (x := q1) (show cdA 350 1870 = some (.aload_n 0, 1, 0, 0, 0) from rfl) (List.Mem.head _) ?_
  refine z_load X (x := i) (show cdA 350 1871 = some (.iload 4, 2, 0, 0, 0) from rfl) (List.Mem.tail _ (List.Mem.tail _ (List.Mem.tail _ (List.Mem.tail _ (List.Mem.head _))))) ?_
  refine z_const X (show cdA 350 1873 = some (.iconst 1, 1, 0, 0, 0) from rfl) ?_
  refine z_add X (show cdA 350 1874 = some (.iadd, 1, 0, 0, 0) from rfl) ?_
  refine z_sld X S hL (show cdA 350 1875 = some (.iaload, 1, 0, 0, 0) from rfl) (show 0 ≤ (i + 1) ∧ (i + 1) < (L : Int) by omega) ?_
  have sr5 : rng (sc xs (i + 1)) := sc_rng
  refine z_callV X 0 (rm := rmN 178) (As := [.int (Int32.ofInt (sc xs (i + 1)))]) (st := []) (show cdA 350 1876 = some (.invokevirtual 288, 3, 178, 0, 0) from rfl) rfl (by decide) rfl (by rw [E.1, E.2.1, E.2.2.1]; exact cs_count G I (by first | exact ⟨sr5.1, sr5.2⟩ | omega)) ⟨by rw [E.2.2.2]; exact (show 8 + 1 ≤ 2048 by omega), by rw [E.2.2.2]; exact (show 8 + (2 + 11) + 143 ≤ 84000 by omega), by rw [E.2.2.2]; exact (show ce + 0 ≤ 601024 by omega), by rw [E.2.2.2]; exact (show sl + 0 ≤ 7293034 by omega)⟩ (Nat.le_of_ble_eq_true rfl) (fun vv s6 hq => ?_) (fun ee s6 hq => ?_)
  rotate_left
  · obtain ⟨Is6, Fs6, e7, hv, hrs6, hps6⟩ := hq; cases hv
  obtain ⟨Is6, Fs6, e7, hv, hrs6, hps6⟩ := hq
  cases hv
  have Gs6 := fm_ts F Fs6 (by decide) (by decide)
  have JRLx_s6 : RLx s6 := RLx_fm Fs6 (by decide) jR
  have ws6_70 : iI s6 70 = iI s 70 := fm_i Fs6 (by decide)
  have ws6_107 : iI s6 107 = iI s 107 := fm_i Fs6 (by decide)
  have ws6_12 : iI s6 12 = iI s 12 := fm_i Fs6 (by decide)
  have ws6_89 : iI s6 89 = iI s 89 := fm_i Fs6 (by decide)
  have wos6 : iO s6 = iO s := fm_o Fs6 (by decide)
  show WS k 1879 [(0, .ref q1), (1, .ref (A 0)), (2, .ref (A 179)), (3, .ref (A 517)), (4, .int (Int32.ofInt i))] [.int (Int32.ofInt e7)] (Wd A dT s6) ce sl
  refine w_pop X.1 (ax_d X (show cdA 350 1879 = some (.pop, 1, 0, 0, 0) from rfl)) rfl ?_
  refine z_aload_n X (x := A 179) (show cdA 350 1880 = some (.aload_n 2, 1, 0, 0, 0) from rfl) (List.Mem.tail _ (List.Mem.tail _ (List.Mem.head _))) ?_
  refine z_aload_n X (x := q1) (show cdA 350 1881 = some (.aload_n 0, 1, 0, 0, 0) from rfl) (List.Mem.head _) ?_
  refine z_load X (x := i) (show cdA 350 1882 = some (.iload 4, 2, 0, 0, 0) from rfl) (List.Mem.tail _ (List.Mem.tail _ (List.Mem.tail _ (List.Mem.tail _ (List.Mem.head _))))) ?_
  refine z_const X (show cdA 350 1884 = some (.iconst 1, 1, 0, 0, 0) from rfl) ?_
  refine z_add X (show cdA 350 1885 = some (.iadd, 1, 0, 0, 0) from rfl) ?_
  refine z_sld X S hL (show cdA 350 1886 = some (.iaload, 1, 0, 0, 0) from rfl) (show 0 ≤ (i + 1) ∧ (i + 1) < (L : Int) by omega) ?_
  have sr8 : rng (sc xs (i + 1)) := sc_rng
  refine z_callV X 179 (rm := rmN 295) (As := [.int (Int32.ofInt (sc xs (i + 1)))]) (st := []) (show cdA 350 1887 = some (.invokevirtual 291, 3, 295, 0, 0) from rfl) rfl (by decide) rfl (by rw [E.1, E.2.1, E.2.2.1]; exact k_count G Is6 (by first | exact ⟨sr8.1, sr8.2⟩ | omega)) ⟨by rw [E.2.2.2]; exact (show 7 + 1 ≤ 2048 by omega), by rw [E.2.2.2]; exact (show 8 + (6 + 11) + 122 ≤ 84000 by omega), by rw [E.2.2.2]; exact (show ce + 0 ≤ 601024 by omega), by rw [E.2.2.2]; exact (show sl + 0 ≤ 7293034 by omega)⟩ (Nat.le_of_ble_eq_true rfl) (fun vv s9 hq => ?_) (fun ee s9 hq => ?_)
  rotate_left
  · obtain ⟨Is9, Fs9, e10, hv, hrs9, hps9⟩ := hq; cases hv
  obtain ⟨Is9, Fs9, e10, hv, hrs9, hps9⟩ := hq
  cases hv
  have Gs9 := fm_ts Gs6 Fs9 (by decide) (by decide)
  have JRLx_s9 : RLx s9 := RLx_fm Fs9 (by decide) JRLx_s6
  have ws9_70 : iI s9 70 = iI s6 70 := fm_i Fs9 (by decide)
  have ws9_107 : iI s9 107 = iI s6 107 := fm_i Fs9 (by decide)
  have ws9_12 : iI s9 12 = iI s6 12 := fm_i Fs9 (by decide)
  have ws9_89 : iI s9 89 = iI s6 89 := fm_i Fs9 (by decide)
  have wos9 : iO s9 = iO s6 := fm_o Fs9 (by decide)
  show WS k 1890 [(0, .ref q1), (1, .ref (A 0)), (2, .ref (A 179)), (3, .ref (A 517)), (4, .int (Int32.ofInt i))] [.int (Int32.ofInt e10)] (Wd A dT s9) ce sl
  refine w_pop X.1 (ax_d X (show cdA 350 1890 = some (.pop, 1, 0, 0, 0) from rfl)) rfl ?_
  refine z_goto X (t := 1894) (show cdA 350 1891 = some (.goto 3, 3, 0, 0, 0) from rfl) (by decide) ?_
  refine w_widen (ce' := ce + 29) (sl' := sl + 222) (by omega) (by omega) ?_
  exact WS_lv (lv := [(0, .ref q1), (1, .ref (A 0)), (2, .ref (A 179)), (3, .ref (A 517)), (4, .int (Int32.ofInt i))]) (List.forall_mem_cons.mpr ⟨(List.Mem.head _), (List.forall_mem_cons.mpr ⟨(List.Mem.tail _ (List.Mem.head _)), (List.forall_mem_cons.mpr ⟨(List.Mem.tail _ (List.Mem.tail _ (List.Mem.head _))), (List.forall_mem_cons.mpr ⟨(List.Mem.tail _ (List.Mem.tail _ (List.Mem.tail _ (List.Mem.head _)))), (List.forall_mem_cons.mpr ⟨(List.Mem.tail _ (List.Mem.tail _ (List.Mem.tail _ (List.Mem.tail _ (List.Mem.head _))))), (fun q h => absurd h List.not_mem_nil)⟩)⟩)⟩)⟩)⟩) (hk A _ Is9 JRLx_s9 (by omega) (by omega) (by omega))
theorem law_head (G : GX l s0 D tys a0 dT) (GR : RS0 s0) (SF : SF0 s0) (GT : TXs0 s0) {k : kx_T} (X : AX k 350 dT) (E : kL k = l ∧ kS0 k = s0 ∧ kD k = D ∧ kR k = room_1) {q1 L : Nat} {xs : Nat → Int32} (S : SX k q1 L xs) (hL : L ≤ 3072) (hRt : (kMe k).sig.returnType = some .boolean) (q : kx_end k K0 601024 7293034) : ∀ (n m : Nat) (A : Nat → Nat) (s : PS), Bd s → RLx s → iI s 89 = 1 → iI s 12 ≤ 8 → iI s 70 = iI s 107 → (L : Int) ≤ 6 * ((m + n : Nat) : Int) + 5 → m ≤ 512 → WS k 23 [(0, .ref q1), (1, .ref (A 0)), (2, .ref (A 179)), (3, .ref (A 517)), (4, .int (Int32.ofInt (6 * (m : Int))))] [] (Wd A dT s) (518 + 29 * m) (23524 + 222 * m) := by
  intro n
  induction n with
  | zero =>
    intro m A s I jR  p1 p2 p3 hn hm
    refine z_load X (x := (6 * (m : Int))) (show cdA 350 23 = some (.iload 4, 2, 0, 0, 0) from rfl) (List.Mem.tail _ (List.Mem.tail _ (List.Mem.tail _ (List.Mem.tail _ (List.Mem.head _))))) ?_
    refine z_aload_n X (x := q1) (show cdA 350 25 = some (.aload_n 0, 1, 0, 0, 0) from rfl) (List.Mem.head _) ?_
    refine z_slen X S hL (show cdA 350 26 = some (.arraylength, 1, 0, 0, 0) from rfl) ?_
    refine z_bipush X (show cdA 350 27 = some (.bipush 6, 2, 0, 0, 6) from rfl) ?_
    refine z_sub X (show cdA 350 29 = some (.isub, 1, 0, 0, 0) from rfl) ?_
    refine z_icmp_gt X (t := 1900) (show cdA 350 30 = some (.if_icmp .gt 1870, 3, 4, 0, 0) from rfl) (by decide) ⟨by omega, by omega⟩ ⟨by omega, by omega⟩ (fun g1 => ?_) (fun g1 => ?_)
    ·
      refine z_const X (show cdA 350 1900 = some (.iconst 1, 1, 0, 0, 0) from rfl) ?_
      exact w_iret X.1 q hRt (nar_ret (Or.inr rfl)) (ax_d X (show cdA 350 1901 = some (.ireturn, 1, 0, 0, 0) from rfl)) (by omega) (by omega) rfl
    ·
      exfalso
      omega
  | succ n ih =>
    intro m A s I jR  p1 p2 p3 hn hm
    refine z_load X (x := (6 * (m : Int))) (show cdA 350 23 = some (.iload 4, 2, 0, 0, 0) from rfl) (List.Mem.tail _ (List.Mem.tail _ (List.Mem.tail _ (List.Mem.tail _ (List.Mem.head _))))) ?_
    refine z_aload_n X (x := q1) (show cdA 350 25 = some (.aload_n 0, 1, 0, 0, 0) from rfl) (List.Mem.head _) ?_
    refine z_slen X S hL (show cdA 350 26 = some (.arraylength, 1, 0, 0, 0) from rfl) ?_
    refine z_bipush X (show cdA 350 27 = some (.bipush 6, 2, 0, 0, 6) from rfl) ?_
    refine z_sub X (show cdA 350 29 = some (.isub, 1, 0, 0, 0) from rfl) ?_
    refine z_icmp_gt X (t := 1900) (show cdA 350 30 = some (.if_icmp .gt 1870, 3, 4, 0, 0) from rfl) (by decide) ⟨by omega, by omega⟩ ⟨by omega, by omega⟩ (fun g1 => ?_) (fun g1 => ?_)
    ·
      refine z_const X (show cdA 350 1900 = some (.iconst 1, 1, 0, 0, 0) from rfl) ?_
      exact w_iret X.1 q hRt (nar_ret (Or.inr rfl)) (ax_d X (show cdA 350 1901 = some (.ireturn, 1, 0, 0, 0) from rfl)) (by omega) (by omega) rfl
    ·
      have hk : ∀ (A : Nat → Nat) (t : PS), Bd t → RLx t → iI t 89 = 1 → iI t 12 ≤ 8 → iI t 70 = iI t 107 → WS k 1894 [(0, .ref q1), (1, .ref (A 0)), (2, .ref (A 179)), (3, .ref (A 517)), (4, .int (Int32.ofInt (6 * (m : Int))))] [] (Wd A dT t) (518 + 29 * m + 29) (23524 + 222 * m + 222) := by
        intro A t I jR  p1 p2 p3
        refine z_inc X (x := (6 * (m : Int))) (lv' := [(4, .int (Int32.ofInt (6 * (m : Int) + 6))), (0, .ref q1), (1, .ref (A 0)), (2, .ref (A 179)), (3, .ref (A 517))]) (show cdA 350 1894 = some (.iinc 4 6, 3, 0, 0, 0) from rfl) (by decide) (List.Mem.tail _ (List.Mem.tail _ (List.Mem.tail _ (List.Mem.tail _ (List.Mem.head _))))) (fun _ h => h) ?_
        refine z_goto X (t := 23) (show cdA 350 1897 = some (.goto (-1874), 3, 0, 0, 0) from rfl) (by decide) ?_
        have e6 : (6 * (m : Int) + 6) = 6 * ((m + 1 : Nat) : Int) := by omega
        rw [e6]
        refine WS_lv (lv := [(0, .ref q1), (1, .ref (A 0)), (2, .ref (A 179)), (3, .ref (A 517)), (4, .int (Int32.ofInt (6 * ((m + 1 : Nat) : Int))))]) (List.forall_mem_cons.mpr ⟨(List.Mem.tail _ (List.Mem.head _)), (List.forall_mem_cons.mpr ⟨(List.Mem.tail _ (List.Mem.tail _ (List.Mem.head _))), (List.forall_mem_cons.mpr ⟨(List.Mem.tail _ (List.Mem.tail _ (List.Mem.tail _ (List.Mem.head _)))), (List.forall_mem_cons.mpr ⟨(List.Mem.tail _ (List.Mem.tail _ (List.Mem.tail _ (List.Mem.tail _ (List.Mem.head _))))), (List.forall_mem_cons.mpr ⟨(List.Mem.head _), (fun q h => absurd h List.not_mem_nil)⟩)⟩)⟩)⟩)⟩) ?_
        refine w_widen (ce' := 518 + 29 * (m + 1)) (sl' := 23524 + 222 * (m + 1)) (by omega) (by omega) ?_
        exact ih (m + 1) A t I jR  p1 p2 p3 (by omega) (by omega)
      refine z_aload_n X (x := q1) (show cdA 350 33 = some (.aload_n 0, 1, 0, 0, 0) from rfl) (List.Mem.head _) ?_
      refine z_load X (x := (6 * (m : Int))) (show cdA 350 34 = some (.iload 4, 2, 0, 0, 0) from rfl) (List.Mem.tail _ (List.Mem.tail _ (List.Mem.tail _ (List.Mem.tail _ (List.Mem.head _))))) ?_
      refine z_sld X S hL (show cdA 350 36 = some (.iaload, 1, 0, 0, 0) from rfl) (show 0 ≤ (6 * (m : Int)) ∧ (6 * (m : Int)) < (L : Int) by omega) ?_
      have sr2 : rng (sc xs (6 * (m : Int))) := sc_rng
      refine z_bipush X (show cdA 350 37 = some (.bipush 63, 2, 0, 0, 63) from rfl) ?_
      refine z_andm X (show cdA 350 39 = some (.iand, 1, 0, 0, 0) from rfl) (by decide) (by decide) (fun y3 hy3 gy3 => ?_)
      rcases (show y3 = 0 ∨ y3 = 1 ∨ y3 = 2 ∨ y3 = 3 ∨ y3 = 4 ∨ y3 = 5 ∨ y3 = 6 ∨ y3 = 7 ∨ y3 = 8 ∨ y3 = 9 ∨ y3 = 10 ∨ y3 = 11 ∨ y3 = 12 ∨ y3 = 13 ∨ y3 = 14 ∨ y3 = 15 ∨ y3 = 16 ∨ y3 = 17 ∨ y3 = 18 ∨ y3 = 19 ∨ y3 = 20 ∨ y3 = 21 ∨ y3 = 22 ∨ y3 = 23 ∨ y3 = 24 ∨ y3 = 25 ∨ y3 = 26 ∨ y3 = 27 ∨ y3 = 28 ∨ y3 = 29 ∨ y3 = 30 ∨ y3 = 31 ∨ y3 = 32 ∨ y3 = 33 ∨ y3 = 34 ∨ y3 = 35 ∨ y3 = 36 ∨ y3 = 37 ∨ y3 = 38 ∨ y3 = 39 ∨ y3 = 40 ∨ y3 = 41 ∨ y3 = 42 ∨ y3 = 43 ∨ (y3 < 0 ∨ 43 < y3) by omega) with gs | gs | gs | gs | gs | gs | gs | gs | gs | gs | gs | gs | gs | gs | gs | gs | gs | gs | gs | gs | gs | gs | gs | gs | gs | gs | gs | gs | gs | gs | gs | gs | gs | gs | gs | gs | gs | gs | gs | gs | gs | gs | gs | gs | gs
      ·
        rw [gs]
        refine w_tabIn X.1 (dflt := 1854) (lo := 0) (hi := 43) (offs := #[192, 265, 293, 321, 334, 374, 435, 484, 524, 564, 616, 656, 708, 748, 776, 816, 844, 872, 900, 913, 926, 954, 982, 1010, 1050, 1063, 1091, 1131, 1159, 1199, 1239, 1279, 1331, 1371, 1399, 1455, 1519, 1627, 1655, 1735, 1775, 1803, 1816, 1829]) (len := 192) (off := 192) (t := 232) (ax_d X (show cdA 350 40 = some (.tableswitch 1854 0 43 #[192, 265, 293, 321, 334, 374, 435, 484, 524, 564, 616, 656, 708, 748, 776, 816, 844, 872, 900, 913, 926, 954, 982, 1010, 1050, 1063, 1091, 1131, 1159, 1199, 1239, 1279, 1331, 1371, 1399, 1455, 1519, 1627, 1655, 1735, 1775, 1803, 1816, 1829], 192, 0, 0, 0) from rfl)) (by decide) (by decide) (by decide) (by decide) ?_
        exact lc_0 G GR SF GT X E S hL I jR  p1 p2 p3 (by omega) (by omega) (by omega) hk
      ·
        rw [gs]
        refine w_tabIn X.1 (dflt := 1854) (lo := 0) (hi := 43) (offs := #[192, 265, 293, 321, 334, 374, 435, 484, 524, 564, 616, 656, 708, 748, 776, 816, 844, 872, 900, 913, 926, 954, 982, 1010, 1050, 1063, 1091, 1131, 1159, 1199, 1239, 1279, 1331, 1371, 1399, 1455, 1519, 1627, 1655, 1735, 1775, 1803, 1816, 1829]) (len := 192) (off := 265) (t := 305) (ax_d X (show cdA 350 40 = some (.tableswitch 1854 0 43 #[192, 265, 293, 321, 334, 374, 435, 484, 524, 564, 616, 656, 708, 748, 776, 816, 844, 872, 900, 913, 926, 954, 982, 1010, 1050, 1063, 1091, 1131, 1159, 1199, 1239, 1279, 1331, 1371, 1399, 1455, 1519, 1627, 1655, 1735, 1775, 1803, 1816, 1829], 192, 0, 0, 0) from rfl)) (by decide) (by decide) (by decide) (by decide) ?_
        exact lc_1 G GR SF GT X E S hL I jR  p1 p2 p3 (by omega) (by omega) (by omega) hk
      ·
        rw [gs]
        refine w_tabIn X.1 (dflt := 1854) (lo := 0) (hi := 43) (offs := #[192, 265, 293, 321, 334, 374, 435, 484, 524, 564, 616, 656, 708, 748, 776, 816, 844, 872, 900, 913, 926, 954, 982, 1010, 1050, 1063, 1091, 1131, 1159, 1199, 1239, 1279, 1331, 1371, 1399, 1455, 1519, 1627, 1655, 1735, 1775, 1803, 1816, 1829]) (len := 192) (off := 293) (t := 333) (ax_d X (show cdA 350 40 = some (.tableswitch 1854 0 43 #[192, 265, 293, 321, 334, 374, 435, 484, 524, 564, 616, 656, 708, 748, 776, 816, 844, 872, 900, 913, 926, 954, 982, 1010, 1050, 1063, 1091, 1131, 1159, 1199, 1239, 1279, 1331, 1371, 1399, 1455, 1519, 1627, 1655, 1735, 1775, 1803, 1816, 1829], 192, 0, 0, 0) from rfl)) (by decide) (by decide) (by decide) (by decide) ?_
        exact lc_2 G GR SF GT X E S hL I jR  p1 p2 p3 (by omega) (by omega) (by omega) hk
      ·
        rw [gs]
        refine w_tabIn X.1 (dflt := 1854) (lo := 0) (hi := 43) (offs := #[192, 265, 293, 321, 334, 374, 435, 484, 524, 564, 616, 656, 708, 748, 776, 816, 844, 872, 900, 913, 926, 954, 982, 1010, 1050, 1063, 1091, 1131, 1159, 1199, 1239, 1279, 1331, 1371, 1399, 1455, 1519, 1627, 1655, 1735, 1775, 1803, 1816, 1829]) (len := 192) (off := 321) (t := 361) (ax_d X (show cdA 350 40 = some (.tableswitch 1854 0 43 #[192, 265, 293, 321, 334, 374, 435, 484, 524, 564, 616, 656, 708, 748, 776, 816, 844, 872, 900, 913, 926, 954, 982, 1010, 1050, 1063, 1091, 1131, 1159, 1199, 1239, 1279, 1331, 1371, 1399, 1455, 1519, 1627, 1655, 1735, 1775, 1803, 1816, 1829], 192, 0, 0, 0) from rfl)) (by decide) (by decide) (by decide) (by decide) ?_
        exact lc_3 G GR SF GT X E S hL I jR  p1 p2 p3 (by omega) (by omega) (by omega) hk
      ·
        rw [gs]
        refine w_tabIn X.1 (dflt := 1854) (lo := 0) (hi := 43) (offs := #[192, 265, 293, 321, 334, 374, 435, 484, 524, 564, 616, 656, 708, 748, 776, 816, 844, 872, 900, 913, 926, 954, 982, 1010, 1050, 1063, 1091, 1131, 1159, 1199, 1239, 1279, 1331, 1371, 1399, 1455, 1519, 1627, 1655, 1735, 1775, 1803, 1816, 1829]) (len := 192) (off := 334) (t := 374) (ax_d X (show cdA 350 40 = some (.tableswitch 1854 0 43 #[192, 265, 293, 321, 334, 374, 435, 484, 524, 564, 616, 656, 708, 748, 776, 816, 844, 872, 900, 913, 926, 954, 982, 1010, 1050, 1063, 1091, 1131, 1159, 1199, 1239, 1279, 1331, 1371, 1399, 1455, 1519, 1627, 1655, 1735, 1775, 1803, 1816, 1829], 192, 0, 0, 0) from rfl)) (by decide) (by decide) (by decide) (by decide) ?_
        exact lc_4 G GR SF GT X E S hL I jR  p1 p2 p3 (by omega) (by omega) (by omega) hk
      ·
        rw [gs]
        refine w_tabIn X.1 (dflt := 1854) (lo := 0) (hi := 43) (offs := #[192, 265, 293, 321, 334, 374, 435, 484, 524, 564, 616, 656, 708, 748, 776, 816, 844, 872, 900, 913, 926, 954, 982, 1010, 1050, 1063, 1091, 1131, 1159, 1199, 1239, 1279, 1331, 1371, 1399, 1455, 1519, 1627, 1655, 1735, 1775, 1803, 1816, 1829]) (len := 192) (off := 374) (t := 414) (ax_d X (show cdA 350 40 = some (.tableswitch 1854 0 43 #[192, 265, 293, 321, 334, 374, 435, 484, 524, 564, 616, 656, 708, 748, 776, 816, 844, 872, 900, 913, 926, 954, 982, 1010, 1050, 1063, 1091, 1131, 1159, 1199, 1239, 1279, 1331, 1371, 1399, 1455, 1519, 1627, 1655, 1735, 1775, 1803, 1816, 1829], 192, 0, 0, 0) from rfl)) (by decide) (by decide) (by decide) (by decide) ?_
        exact lc_5 G GR SF GT X E S hL I jR  p1 p2 p3 (by omega) (by omega) (by omega) hk
      ·
        rw [gs]
        refine w_tabIn X.1 (dflt := 1854) (lo := 0) (hi := 43) (offs := #[192, 265, 293, 321, 334, 374, 435, 484, 524, 564, 616, 656, 708, 748, 776, 816, 844, 872, 900, 913, 926, 954, 982, 1010, 1050, 1063, 1091, 1131, 1159, 1199, 1239, 1279, 1331, 1371, 1399, 1455, 1519, 1627, 1655, 1735, 1775, 1803, 1816, 1829]) (len := 192) (off := 435) (t := 475) (ax_d X (show cdA 350 40 = some (.tableswitch 1854 0 43 #[192, 265, 293, 321, 334, 374, 435, 484, 524, 564, 616, 656, 708, 748, 776, 816, 844, 872, 900, 913, 926, 954, 982, 1010, 1050, 1063, 1091, 1131, 1159, 1199, 1239, 1279, 1331, 1371, 1399, 1455, 1519, 1627, 1655, 1735, 1775, 1803, 1816, 1829], 192, 0, 0, 0) from rfl)) (by decide) (by decide) (by decide) (by decide) ?_
        exact lc_6 G GR SF GT X E S hL I jR  p1 p2 p3 (by omega) (by omega) (by omega) hk
      ·
        rw [gs]
        refine w_tabIn X.1 (dflt := 1854) (lo := 0) (hi := 43) (offs := #[192, 265, 293, 321, 334, 374, 435, 484, 524, 564, 616, 656, 708, 748, 776, 816, 844, 872, 900, 913, 926, 954, 982, 1010, 1050, 1063, 1091, 1131, 1159, 1199, 1239, 1279, 1331, 1371, 1399, 1455, 1519, 1627, 1655, 1735, 1775, 1803, 1816, 1829]) (len := 192) (off := 484) (t := 524) (ax_d X (show cdA 350 40 = some (.tableswitch 1854 0 43 #[192, 265, 293, 321, 334, 374, 435, 484, 524, 564, 616, 656, 708, 748, 776, 816, 844, 872, 900, 913, 926, 954, 982, 1010, 1050, 1063, 1091, 1131, 1159, 1199, 1239, 1279, 1331, 1371, 1399, 1455, 1519, 1627, 1655, 1735, 1775, 1803, 1816, 1829], 192, 0, 0, 0) from rfl)) (by decide) (by decide) (by decide) (by decide) ?_
        exact lc_7 G GR SF GT X E S hL I jR  p1 p2 p3 (by omega) (by omega) (by omega) hk
      ·
        rw [gs]
        refine w_tabIn X.1 (dflt := 1854) (lo := 0) (hi := 43) (offs := #[192, 265, 293, 321, 334, 374, 435, 484, 524, 564, 616, 656, 708, 748, 776, 816, 844, 872, 900, 913, 926, 954, 982, 1010, 1050, 1063, 1091, 1131, 1159, 1199, 1239, 1279, 1331, 1371, 1399, 1455, 1519, 1627, 1655, 1735, 1775, 1803, 1816, 1829]) (len := 192) (off := 524) (t := 564) (ax_d X (show cdA 350 40 = some (.tableswitch 1854 0 43 #[192, 265, 293, 321, 334, 374, 435, 484, 524, 564, 616, 656, 708, 748, 776, 816, 844, 872, 900, 913, 926, 954, 982, 1010, 1050, 1063, 1091, 1131, 1159, 1199, 1239, 1279, 1331, 1371, 1399, 1455, 1519, 1627, 1655, 1735, 1775, 1803, 1816, 1829], 192, 0, 0, 0) from rfl)) (by decide) (by decide) (by decide) (by decide) ?_
        exact lc_8 G GR SF GT X E S hL I jR  p1 p2 p3 (by omega) (by omega) (by omega) hk
      ·
        rw [gs]
        refine w_tabIn X.1 (dflt := 1854) (lo := 0) (hi := 43) (offs := #[192, 265, 293, 321, 334, 374, 435, 484, 524, 564, 616, 656, 708, 748, 776, 816, 844, 872, 900, 913, 926, 954, 982, 1010, 1050, 1063, 1091, 1131, 1159, 1199, 1239, 1279, 1331, 1371, 1399, 1455, 1519, 1627, 1655, 1735, 1775, 1803, 1816, 1829]) (len := 192) (off := 564) (t := 604) (ax_d X (show cdA 350 40 = some (.tableswitch 1854 0 43 #[192, 265, 293, 321, 334, 374, 435, 484, 524, 564, 616, 656, 708, 748, 776, 816, 844, 872, 900, 913, 926, 954, 982, 1010, 1050, 1063, 1091, 1131, 1159, 1199, 1239, 1279, 1331, 1371, 1399, 1455, 1519, 1627, 1655, 1735, 1775, 1803, 1816, 1829], 192, 0, 0, 0) from rfl)) (by decide) (by decide) (by decide) (by decide) ?_
        exact lc_9 G GR SF GT X E S hL I jR  p1 p2 p3 (by omega) (by omega) (by omega) hk
      ·
        rw [gs]
        refine w_tabIn X.1 (dflt := 1854) (lo := 0) (hi := 43) (offs := #[192, 265, 293, 321, 334, 374, 435, 484, 524, 564, 616, 656, 708, 748, 776, 816, 844, 872, 900, 913, 926, 954, 982, 1010, 1050, 1063, 1091, 1131, 1159, 1199, 1239, 1279, 1331, 1371, 1399, 1455, 1519, 1627, 1655, 1735, 1775, 1803, 1816, 1829]) (len := 192) (off := 616) (t := 656) (ax_d X (show cdA 350 40 = some (.tableswitch 1854 0 43 #[192, 265, 293, 321, 334, 374, 435, 484, 524, 564, 616, 656, 708, 748, 776, 816, 844, 872, 900, 913, 926, 954, 982, 1010, 1050, 1063, 1091, 1131, 1159, 1199, 1239, 1279, 1331, 1371, 1399, 1455, 1519, 1627, 1655, 1735, 1775, 1803, 1816, 1829], 192, 0, 0, 0) from rfl)) (by decide) (by decide) (by decide) (by decide) ?_
        exact lc_10 G GR SF GT X E S hL I jR  p1 p2 p3 (by omega) (by omega) (by omega) hk
      ·
        rw [gs]
        refine w_tabIn X.1 (dflt := 1854) (lo := 0) (hi := 43) (offs := #[192, 265, 293, 321, 334, 374, 435, 484, 524, 564, 616, 656, 708, 748, 776, 816, 844, 872, 900, 913, 926, 954, 982, 1010, 1050, 1063, 1091, 1131, 1159, 1199, 1239, 1279, 1331, 1371, 1399, 1455, 1519, 1627, 1655, 1735, 1775, 1803, 1816, 1829]) (len := 192) (off := 656) (t := 696) (ax_d X (show cdA 350 40 = some (.tableswitch 1854 0 43 #[192, 265, 293, 321, 334, 374, 435, 484, 524, 564, 616, 656, 708, 748, 776, 816, 844, 872, 900, 913, 926, 954, 982, 1010, 1050, 1063, 1091, 1131, 1159, 1199, 1239, 1279, 1331, 1371, 1399, 1455, 1519, 1627, 1655, 1735, 1775, 1803, 1816, 1829], 192, 0, 0, 0) from rfl)) (by decide) (by decide) (by decide) (by decide) ?_
        exact lc_11 G GR SF GT X E S hL I jR  p1 p2 p3 (by omega) (by omega) (by omega) hk
      ·
        rw [gs]
        refine w_tabIn X.1 (dflt := 1854) (lo := 0) (hi := 43) (offs := #[192, 265, 293, 321, 334, 374, 435, 484, 524, 564, 616, 656, 708, 748, 776, 816, 844, 872, 900, 913, 926, 954, 982, 1010, 1050, 1063, 1091, 1131, 1159, 1199, 1239, 1279, 1331, 1371, 1399, 1455, 1519, 1627, 1655, 1735, 1775, 1803, 1816, 1829]) (len := 192) (off := 708) (t := 748) (ax_d X (show cdA 350 40 = some (.tableswitch 1854 0 43 #[192, 265, 293, 321, 334, 374, 435, 484, 524, 564, 616, 656, 708, 748, 776, 816, 844, 872, 900, 913, 926, 954, 982, 1010, 1050, 1063, 1091, 1131, 1159, 1199, 1239, 1279, 1331, 1371, 1399, 1455, 1519, 1627, 1655, 1735, 1775, 1803, 1816, 1829], 192, 0, 0, 0) from rfl)) (by decide) (by decide) (by decide) (by decide) ?_
        exact lc_12 G GR SF GT X E S hL I jR  p1 p2 p3 (by omega) (by omega) (by omega) hk
      ·
        rw [gs]
        refine w_tabIn X.1 (dflt := 1854) (lo := 0) (hi := 43) (offs := #[192, 265, 293, 321, 334, 374, 435, 484, 524, 564, 616, 656, 708, 748, 776, 816, 844, 872, 900, 913, 926, 954, 982, 1010, 1050, 1063, 1091, 1131, 1159, 1199, 1239, 1279, 1331, 1371, 1399, 1455, 1519, 1627, 1655, 1735, 1775, 1803, 1816, 1829]) (len := 192) (off := 748) (t := 788) (ax_d X (show cdA 350 40 = some (.tableswitch 1854 0 43 #[192, 265, 293, 321, 334, 374, 435, 484, 524, 564, 616, 656, 708, 748, 776, 816, 844, 872, 900, 913, 926, 954, 982, 1010, 1050, 1063, 1091, 1131, 1159, 1199, 1239, 1279, 1331, 1371, 1399, 1455, 1519, 1627, 1655, 1735, 1775, 1803, 1816, 1829], 192, 0, 0, 0) from rfl)) (by decide) (by decide) (by decide) (by decide) ?_
        exact lc_13 G GR SF GT X E S hL I jR  p1 p2 p3 (by omega) (by omega) (by omega) hk
      ·
        rw [gs]
        refine w_tabIn X.1 (dflt := 1854) (lo := 0) (hi := 43) (offs := #[192, 265, 293, 321, 334, 374, 435, 484, 524, 564, 616, 656, 708, 748, 776, 816, 844, 872, 900, 913, 926, 954, 982, 1010, 1050, 1063, 1091, 1131, 1159, 1199, 1239, 1279, 1331, 1371, 1399, 1455, 1519, 1627, 1655, 1735, 1775, 1803, 1816, 1829]) (len := 192) (off := 776) (t := 816) (ax_d X (show cdA 350 40 = some (.tableswitch 1854 0 43 #[192, 265, 293, 321, 334, 374, 435, 484, 524, 564, 616, 656, 708, 748, 776, 816, 844, 872, 900, 913, 926, 954, 982, 1010, 1050, 1063, 1091, 1131, 1159, 1199, 1239, 1279, 1331, 1371, 1399, 1455, 1519, 1627, 1655, 1735, 1775, 1803, 1816, 1829], 192, 0, 0, 0) from rfl)) (by decide) (by decide) (by decide) (by decide) ?_
        exact lc_14 G GR SF GT X E S hL I jR  p1 p2 p3 (by omega) (by omega) (by omega) hk
      ·
        rw [gs]
        refine w_tabIn X.1 (dflt := 1854) (lo := 0) (hi := 43) (offs := #[192, 265, 293, 321, 334, 374, 435, 484, 524, 564, 616, 656, 708, 748, 776, 816, 844, 872, 900, 913, 926, 954, 982, 1010, 1050, 1063, 1091, 1131, 1159, 1199, 1239, 1279, 1331, 1371, 1399, 1455, 1519, 1627, 1655, 1735, 1775, 1803, 1816, 1829]) (len := 192) (off := 816) (t := 856) (ax_d X (show cdA 350 40 = some (.tableswitch 1854 0 43 #[192, 265, 293, 321, 334, 374, 435, 484, 524, 564, 616, 656, 708, 748, 776, 816, 844, 872, 900, 913, 926, 954, 982, 1010, 1050, 1063, 1091, 1131, 1159, 1199, 1239, 1279, 1331, 1371, 1399, 1455, 1519, 1627, 1655, 1735, 1775, 1803, 1816, 1829], 192, 0, 0, 0) from rfl)) (by decide) (by decide) (by decide) (by decide) ?_
        exact lc_15 G GR SF GT X E S hL I jR  p1 p2 p3 (by omega) (by omega) (by omega) hk
      ·
        rw [gs]
        refine w_tabIn X.1 (dflt := 1854) (lo := 0) (hi := 43) (offs := #[192, 265, 293, 321, 334, 374, 435, 484, 524, 564, 616, 656, 708, 748, 776, 816, 844, 872, 900, 913, 926, 954, 982, 1010, 1050, 1063, 1091, 1131, 1159, 1199, 1239, 1279, 1331, 1371, 1399, 1455, 1519, 1627, 1655, 1735, 1775, 1803, 1816, 1829]) (len := 192) (off := 844) (t := 884) (ax_d X (show cdA 350 40 = some (.tableswitch 1854 0 43 #[192, 265, 293, 321, 334, 374, 435, 484, 524, 564, 616, 656, 708, 748, 776, 816, 844, 872, 900, 913, 926, 954, 982, 1010, 1050, 1063, 1091, 1131, 1159, 1199, 1239, 1279, 1331, 1371, 1399, 1455, 1519, 1627, 1655, 1735, 1775, 1803, 1816, 1829], 192, 0, 0, 0) from rfl)) (by decide) (by decide) (by decide) (by decide) ?_
        exact lc_16 G GR SF GT X E S hL I jR  p1 p2 p3 (by omega) (by omega) (by omega) hk
      ·
        rw [gs]
        refine w_tabIn X.1 (dflt := 1854) (lo := 0) (hi := 43) (offs := #[192, 265, 293, 321, 334, 374, 435, 484, 524, 564, 616, 656, 708, 748, 776, 816, 844, 872, 900, 913, 926, 954, 982, 1010, 1050, 1063, 1091, 1131, 1159, 1199, 1239, 1279, 1331, 1371, 1399, 1455, 1519, 1627, 1655, 1735, 1775, 1803, 1816, 1829]) (len := 192) (off := 872) (t := 912) (ax_d X (show cdA 350 40 = some (.tableswitch 1854 0 43 #[192, 265, 293, 321, 334, 374, 435, 484, 524, 564, 616, 656, 708, 748, 776, 816, 844, 872, 900, 913, 926, 954, 982, 1010, 1050, 1063, 1091, 1131, 1159, 1199, 1239, 1279, 1331, 1371, 1399, 1455, 1519, 1627, 1655, 1735, 1775, 1803, 1816, 1829], 192, 0, 0, 0) from rfl)) (by decide) (by decide) (by decide) (by decide) ?_
        exact lc_17 G GR SF GT X E S hL I jR  p1 p2 p3 (by omega) (by omega) (by omega) hk
      ·
        rw [gs]
        refine w_tabIn X.1 (dflt := 1854) (lo := 0) (hi := 43) (offs := #[192, 265, 293, 321, 334, 374, 435, 484, 524, 564, 616, 656, 708, 748, 776, 816, 844, 872, 900, 913, 926, 954, 982, 1010, 1050, 1063, 1091, 1131, 1159, 1199, 1239, 1279, 1331, 1371, 1399, 1455, 1519, 1627, 1655, 1735, 1775, 1803, 1816, 1829]) (len := 192) (off := 900) (t := 940) (ax_d X (show cdA 350 40 = some (.tableswitch 1854 0 43 #[192, 265, 293, 321, 334, 374, 435, 484, 524, 564, 616, 656, 708, 748, 776, 816, 844, 872, 900, 913, 926, 954, 982, 1010, 1050, 1063, 1091, 1131, 1159, 1199, 1239, 1279, 1331, 1371, 1399, 1455, 1519, 1627, 1655, 1735, 1775, 1803, 1816, 1829], 192, 0, 0, 0) from rfl)) (by decide) (by decide) (by decide) (by decide) ?_
        exact lc_18 G GR SF GT X E S hL I jR  p1 p2 p3 (by omega) (by omega) (by omega) hk
      ·
        rw [gs]
        refine w_tabIn X.1 (dflt := 1854) (lo := 0) (hi := 43) (offs := #[192, 265, 293, 321, 334, 374, 435, 484, 524, 564, 616, 656, 708, 748, 776, 816, 844, 872, 900, 913, 926, 954, 982, 1010, 1050, 1063, 1091, 1131, 1159, 1199, 1239, 1279, 1331, 1371, 1399, 1455, 1519, 1627, 1655, 1735, 1775, 1803, 1816, 1829]) (len := 192) (off := 913) (t := 953) (ax_d X (show cdA 350 40 = some (.tableswitch 1854 0 43 #[192, 265, 293, 321, 334, 374, 435, 484, 524, 564, 616, 656, 708, 748, 776, 816, 844, 872, 900, 913, 926, 954, 982, 1010, 1050, 1063, 1091, 1131, 1159, 1199, 1239, 1279, 1331, 1371, 1399, 1455, 1519, 1627, 1655, 1735, 1775, 1803, 1816, 1829], 192, 0, 0, 0) from rfl)) (by decide) (by decide) (by decide) (by decide) ?_
        exact lc_19 G GR SF GT X E S hL I jR  p1 p2 p3 (by omega) (by omega) (by omega) hk
      ·
        rw [gs]
        refine w_tabIn X.1 (dflt := 1854) (lo := 0) (hi := 43) (offs := #[192, 265, 293, 321, 334, 374, 435, 484, 524, 564, 616, 656, 708, 748, 776, 816, 844, 872, 900, 913, 926, 954, 982, 1010, 1050, 1063, 1091, 1131, 1159, 1199, 1239, 1279, 1331, 1371, 1399, 1455, 1519, 1627, 1655, 1735, 1775, 1803, 1816, 1829]) (len := 192) (off := 926) (t := 966) (ax_d X (show cdA 350 40 = some (.tableswitch 1854 0 43 #[192, 265, 293, 321, 334, 374, 435, 484, 524, 564, 616, 656, 708, 748, 776, 816, 844, 872, 900, 913, 926, 954, 982, 1010, 1050, 1063, 1091, 1131, 1159, 1199, 1239, 1279, 1331, 1371, 1399, 1455, 1519, 1627, 1655, 1735, 1775, 1803, 1816, 1829], 192, 0, 0, 0) from rfl)) (by decide) (by decide) (by decide) (by decide) ?_
        exact lc_20 G GR SF GT X E S hL I jR  p1 p2 p3 (by omega) (by omega) (by omega) hk
      ·
        rw [gs]
        refine w_tabIn X.1 (dflt := 1854) (lo := 0) (hi := 43) (offs := #[192, 265, 293, 321, 334, 374, 435, 484, 524, 564, 616, 656, 708, 748, 776, 816, 844, 872, 900, 913, 926, 954, 982, 1010, 1050, 1063, 1091, 1131, 1159, 1199, 1239, 1279, 1331, 1371, 1399, 1455, 1519, 1627, 1655, 1735, 1775, 1803, 1816, 1829]) (len := 192) (off := 954) (t := 994) (ax_d X (show cdA 350 40 = some (.tableswitch 1854 0 43 #[192, 265, 293, 321, 334, 374, 435, 484, 524, 564, 616, 656, 708, 748, 776, 816, 844, 872, 900, 913, 926, 954, 982, 1010, 1050, 1063, 1091, 1131, 1159, 1199, 1239, 1279, 1331, 1371, 1399, 1455, 1519, 1627, 1655, 1735, 1775, 1803, 1816, 1829], 192, 0, 0, 0) from rfl)) (by decide) (by decide) (by decide) (by decide) ?_
        exact lc_21 G GR SF GT X E S hL I jR  p1 p2 p3 (by omega) (by omega) (by omega) hk
      ·
        rw [gs]
        refine w_tabIn X.1 (dflt := 1854) (lo := 0) (hi := 43) (offs := #[192, 265, 293, 321, 334, 374, 435, 484, 524, 564, 616, 656, 708, 748, 776, 816, 844, 872, 900, 913, 926, 954, 982, 1010, 1050, 1063, 1091, 1131, 1159, 1199, 1239, 1279, 1331, 1371, 1399, 1455, 1519, 1627, 1655, 1735, 1775, 1803, 1816, 1829]) (len := 192) (off := 982) (t := 1022) (ax_d X (show cdA 350 40 = some (.tableswitch 1854 0 43 #[192, 265, 293, 321, 334, 374, 435, 484, 524, 564, 616, 656, 708, 748, 776, 816, 844, 872, 900, 913, 926, 954, 982, 1010, 1050, 1063, 1091, 1131, 1159, 1199, 1239, 1279, 1331, 1371, 1399, 1455, 1519, 1627, 1655, 1735, 1775, 1803, 1816, 1829], 192, 0, 0, 0) from rfl)) (by decide) (by decide) (by decide) (by decide) ?_
        exact lc_22 G GR SF GT X E S hL I jR  p1 p2 p3 (by omega) (by omega) (by omega) hk
      ·
        rw [gs]
        refine w_tabIn X.1 (dflt := 1854) (lo := 0) (hi := 43) (offs := #[192, 265, 293, 321, 334, 374, 435, 484, 524, 564, 616, 656, 708, 748, 776, 816, 844, 872, 900, 913, 926, 954, 982, 1010, 1050, 1063, 1091, 1131, 1159, 1199, 1239, 1279, 1331, 1371, 1399, 1455, 1519, 1627, 1655, 1735, 1775, 1803, 1816, 1829]) (len := 192) (off := 1010) (t := 1050) (ax_d X (show cdA 350 40 = some (.tableswitch 1854 0 43 #[192, 265, 293, 321, 334, 374, 435, 484, 524, 564, 616, 656, 708, 748, 776, 816, 844, 872, 900, 913, 926, 954, 982, 1010, 1050, 1063, 1091, 1131, 1159, 1199, 1239, 1279, 1331, 1371, 1399, 1455, 1519, 1627, 1655, 1735, 1775, 1803, 1816, 1829], 192, 0, 0, 0) from rfl)) (by decide) (by decide) (by decide) (by decide) ?_
        exact lc_23 G GR SF GT X E S hL I jR  p1 p2 p3 (by omega) (by omega) (by omega) hk
      ·
        rw [gs]
        refine w_tabIn X.1 (dflt := 1854) (lo := 0) (hi := 43) (offs := #[192, 265, 293, 321, 334, 374, 435, 484, 524, 564, 616, 656, 708, 748, 776, 816, 844, 872, 900, 913, 926, 954, 982, 1010, 1050, 1063, 1091, 1131, 1159, 1199, 1239, 1279, 1331, 1371, 1399, 1455, 1519, 1627, 1655, 1735, 1775, 1803, 1816, 1829]) (len := 192) (off := 1050) (t := 1090) (ax_d X (show cdA 350 40 = some (.tableswitch 1854 0 43 #[192, 265, 293, 321, 334, 374, 435, 484, 524, 564, 616, 656, 708, 748, 776, 816, 844, 872, 900, 913, 926, 954, 982, 1010, 1050, 1063, 1091, 1131, 1159, 1199, 1239, 1279, 1331, 1371, 1399, 1455, 1519, 1627, 1655, 1735, 1775, 1803, 1816, 1829], 192, 0, 0, 0) from rfl)) (by decide) (by decide) (by decide) (by decide) ?_
        exact lc_24 G GR SF GT X E S hL I jR  p1 p2 p3 (by omega) (by omega) (by omega) hk
      ·
        rw [gs]
        refine w_tabIn X.1 (dflt := 1854) (lo := 0) (hi := 43) (offs := #[192, 265, 293, 321, 334, 374, 435, 484, 524, 564, 616, 656, 708, 748, 776, 816, 844, 872, 900, 913, 926, 954, 982, 1010, 1050, 1063, 1091, 1131, 1159, 1199, 1239, 1279, 1331, 1371, 1399, 1455, 1519, 1627, 1655, 1735, 1775, 1803, 1816, 1829]) (len := 192) (off := 1063) (t := 1103) (ax_d X (show cdA 350 40 = some (.tableswitch 1854 0 43 #[192, 265, 293, 321, 334, 374, 435, 484, 524, 564, 616, 656, 708, 748, 776, 816, 844, 872, 900, 913, 926, 954, 982, 1010, 1050, 1063, 1091, 1131, 1159, 1199, 1239, 1279, 1331, 1371, 1399, 1455, 1519, 1627, 1655, 1735, 1775, 1803, 1816, 1829], 192, 0, 0, 0) from rfl)) (by decide) (by decide) (by decide) (by decide) ?_
        exact lc_25 G GR SF GT X E S hL I jR  p1 p2 p3 (by omega) (by omega) (by omega) hk
      ·
        rw [gs]
        refine w_tabIn X.1 (dflt := 1854) (lo := 0) (hi := 43) (offs := #[192, 265, 293, 321, 334, 374, 435, 484, 524, 564, 616, 656, 708, 748, 776, 816, 844, 872, 900, 913, 926, 954, 982, 1010, 1050, 1063, 1091, 1131, 1159, 1199, 1239, 1279, 1331, 1371, 1399, 1455, 1519, 1627, 1655, 1735, 1775, 1803, 1816, 1829]) (len := 192) (off := 1091) (t := 1131) (ax_d X (show cdA 350 40 = some (.tableswitch 1854 0 43 #[192, 265, 293, 321, 334, 374, 435, 484, 524, 564, 616, 656, 708, 748, 776, 816, 844, 872, 900, 913, 926, 954, 982, 1010, 1050, 1063, 1091, 1131, 1159, 1199, 1239, 1279, 1331, 1371, 1399, 1455, 1519, 1627, 1655, 1735, 1775, 1803, 1816, 1829], 192, 0, 0, 0) from rfl)) (by decide) (by decide) (by decide) (by decide) ?_
        exact lc_26 G GR SF GT X E S hL I jR  p1 p2 p3 (by omega) (by omega) (by omega) hk
      ·
        rw [gs]
        refine w_tabIn X.1 (dflt := 1854) (lo := 0) (hi := 43) (offs := #[192, 265, 293, 321, 334, 374, 435, 484, 524, 564, 616, 656, 708, 748, 776, 816, 844, 872, 900, 913, 926, 954, 982, 1010, 1050, 1063, 1091, 1131, 1159, 1199, 1239, 1279, 1331, 1371, 1399, 1455, 1519, 1627, 1655, 1735, 1775, 1803, 1816, 1829]) (len := 192) (off := 1131) (t := 1171) (ax_d X (show cdA 350 40 = some (.tableswitch 1854 0 43 #[192, 265, 293, 321, 334, 374, 435, 484, 524, 564, 616, 656, 708, 748, 776, 816, 844, 872, 900, 913, 926, 954, 982, 1010, 1050, 1063, 1091, 1131, 1159, 1199, 1239, 1279, 1331, 1371, 1399, 1455, 1519, 1627, 1655, 1735, 1775, 1803, 1816, 1829], 192, 0, 0, 0) from rfl)) (by decide) (by decide) (by decide) (by decide) ?_
        exact lc_27 G GR SF GT X E S hL I jR  p1 p2 p3 (by omega) (by omega) (by omega) hk
      ·
        rw [gs]
        refine w_tabIn X.1 (dflt := 1854) (lo := 0) (hi := 43) (offs := #[192, 265, 293, 321, 334, 374, 435, 484, 524, 564, 616, 656, 708, 748, 776, 816, 844, 872, 900, 913, 926, 954, 982, 1010, 1050, 1063, 1091, 1131, 1159, 1199, 1239, 1279, 1331, 1371, 1399, 1455, 1519, 1627, 1655, 1735, 1775, 1803, 1816, 1829]) (len := 192) (off := 1159) (t := 1199) (ax_d X (show cdA 350 40 = some (.tableswitch 1854 0 43 #[192, 265, 293, 321, 334, 374, 435, 484, 524, 564, 616, 656, 708, 748, 776, 816, 844, 872, 900, 913, 926, 954, 982, 1010, 1050, 1063, 1091, 1131, 1159, 1199, 1239, 1279, 1331, 1371, 1399, 1455, 1519, 1627, 1655, 1735, 1775, 1803, 1816, 1829], 192, 0, 0, 0) from rfl)) (by decide) (by decide) (by decide) (by decide) ?_
        exact lc_28 G GR SF GT X E S hL I jR  p1 p2 p3 (by omega) (by omega) (by omega) hk
      ·
        rw [gs]
        refine w_tabIn X.1 (dflt := 1854) (lo := 0) (hi := 43) (offs := #[192, 265, 293, 321, 334, 374, 435, 484, 524, 564, 616, 656, 708, 748, 776, 816, 844, 872, 900, 913, 926, 954, 982, 1010, 1050, 1063, 1091, 1131, 1159, 1199, 1239, 1279, 1331, 1371, 1399, 1455, 1519, 1627, 1655, 1735, 1775, 1803, 1816, 1829]) (len := 192) (off := 1199) (t := 1239) (ax_d X (show cdA 350 40 = some (.tableswitch 1854 0 43 #[192, 265, 293, 321, 334, 374, 435, 484, 524, 564, 616, 656, 708, 748, 776, 816, 844, 872, 900, 913, 926, 954, 982, 1010, 1050, 1063, 1091, 1131, 1159, 1199, 1239, 1279, 1331, 1371, 1399, 1455, 1519, 1627, 1655, 1735, 1775, 1803, 1816, 1829], 192, 0, 0, 0) from rfl)) (by decide) (by decide) (by decide) (by decide) ?_
        exact lc_29 G GR SF GT X E S hL I jR  p1 p2 p3 (by omega) (by omega) (by omega) hk
      ·
        rw [gs]
        refine w_tabIn X.1 (dflt := 1854) (lo := 0) (hi := 43) (offs := #[192, 265, 293, 321, 334, 374, 435, 484, 524, 564, 616, 656, 708, 748, 776, 816, 844, 872, 900, 913, 926, 954, 982, 1010, 1050, 1063, 1091, 1131, 1159, 1199, 1239, 1279, 1331, 1371, 1399, 1455, 1519, 1627, 1655, 1735, 1775, 1803, 1816, 1829]) (len := 192) (off := 1239) (t := 1279) (ax_d X (show cdA 350 40 = some (.tableswitch 1854 0 43 #[192, 265, 293, 321, 334, 374, 435, 484, 524, 564, 616, 656, 708, 748, 776, 816, 844, 872, 900, 913, 926, 954, 982, 1010, 1050, 1063, 1091, 1131, 1159, 1199, 1239, 1279, 1331, 1371, 1399, 1455, 1519, 1627, 1655, 1735, 1775, 1803, 1816, 1829], 192, 0, 0, 0) from rfl)) (by decide) (by decide) (by decide) (by decide) ?_
        exact lc_30 G GR SF GT X E S hL I jR  p1 p2 p3 (by omega) (by omega) (by omega) hk
      ·
        rw [gs]
        refine w_tabIn X.1 (dflt := 1854) (lo := 0) (hi := 43) (offs := #[192, 265, 293, 321, 334, 374, 435, 484, 524, 564, 616, 656, 708, 748, 776, 816, 844, 872, 900, 913, 926, 954, 982, 1010, 1050, 1063, 1091, 1131, 1159, 1199, 1239, 1279, 1331, 1371, 1399, 1455, 1519, 1627, 1655, 1735, 1775, 1803, 1816, 1829]) (len := 192) (off := 1279) (t := 1319) (ax_d X (show cdA 350 40 = some (.tableswitch 1854 0 43 #[192, 265, 293, 321, 334, 374, 435, 484, 524, 564, 616, 656, 708, 748, 776, 816, 844, 872, 900, 913, 926, 954, 982, 1010, 1050, 1063, 1091, 1131, 1159, 1199, 1239, 1279, 1331, 1371, 1399, 1455, 1519, 1627, 1655, 1735, 1775, 1803, 1816, 1829], 192, 0, 0, 0) from rfl)) (by decide) (by decide) (by decide) (by decide) ?_
        exact lc_31 G GR SF GT X E S hL I jR  p1 p2 p3 (by omega) (by omega) (by omega) hk
      ·
        rw [gs]
        refine w_tabIn X.1 (dflt := 1854) (lo := 0) (hi := 43) (offs := #[192, 265, 293, 321, 334, 374, 435, 484, 524, 564, 616, 656, 708, 748, 776, 816, 844, 872, 900, 913, 926, 954, 982, 1010, 1050, 1063, 1091, 1131, 1159, 1199, 1239, 1279, 1331, 1371, 1399, 1455, 1519, 1627, 1655, 1735, 1775, 1803, 1816, 1829]) (len := 192) (off := 1331) (t := 1371) (ax_d X (show cdA 350 40 = some (.tableswitch 1854 0 43 #[192, 265, 293, 321, 334, 374, 435, 484, 524, 564, 616, 656, 708, 748, 776, 816, 844, 872, 900, 913, 926, 954, 982, 1010, 1050, 1063, 1091, 1131, 1159, 1199, 1239, 1279, 1331, 1371, 1399, 1455, 1519, 1627, 1655, 1735, 1775, 1803, 1816, 1829], 192, 0, 0, 0) from rfl)) (by decide) (by decide) (by decide) (by decide) ?_
        exact lc_32 G GR SF GT X E S hL I jR  p1 p2 p3 (by omega) (by omega) (by omega) hk
      ·
        rw [gs]
        refine w_tabIn X.1 (dflt := 1854) (lo := 0) (hi := 43) (offs := #[192, 265, 293, 321, 334, 374, 435, 484, 524, 564, 616, 656, 708, 748, 776, 816, 844, 872, 900, 913, 926, 954, 982, 1010, 1050, 1063, 1091, 1131, 1159, 1199, 1239, 1279, 1331, 1371, 1399, 1455, 1519, 1627, 1655, 1735, 1775, 1803, 1816, 1829]) (len := 192) (off := 1371) (t := 1411) (ax_d X (show cdA 350 40 = some (.tableswitch 1854 0 43 #[192, 265, 293, 321, 334, 374, 435, 484, 524, 564, 616, 656, 708, 748, 776, 816, 844, 872, 900, 913, 926, 954, 982, 1010, 1050, 1063, 1091, 1131, 1159, 1199, 1239, 1279, 1331, 1371, 1399, 1455, 1519, 1627, 1655, 1735, 1775, 1803, 1816, 1829], 192, 0, 0, 0) from rfl)) (by decide) (by decide) (by decide) (by decide) ?_
        exact lc_33 G GR SF GT X E S hL I jR  p1 p2 p3 (by omega) (by omega) (by omega) hk
      ·
        rw [gs]
        refine w_tabIn X.1 (dflt := 1854) (lo := 0) (hi := 43) (offs := #[192, 265, 293, 321, 334, 374, 435, 484, 524, 564, 616, 656, 708, 748, 776, 816, 844, 872, 900, 913, 926, 954, 982, 1010, 1050, 1063, 1091, 1131, 1159, 1199, 1239, 1279, 1331, 1371, 1399, 1455, 1519, 1627, 1655, 1735, 1775, 1803, 1816, 1829]) (len := 192) (off := 1399) (t := 1439) (ax_d X (show cdA 350 40 = some (.tableswitch 1854 0 43 #[192, 265, 293, 321, 334, 374, 435, 484, 524, 564, 616, 656, 708, 748, 776, 816, 844, 872, 900, 913, 926, 954, 982, 1010, 1050, 1063, 1091, 1131, 1159, 1199, 1239, 1279, 1331, 1371, 1399, 1455, 1519, 1627, 1655, 1735, 1775, 1803, 1816, 1829], 192, 0, 0, 0) from rfl)) (by decide) (by decide) (by decide) (by decide) ?_
        exact lc_34 G GR SF GT X E S hL I jR  p1 p2 p3 (by omega) (by omega) (by omega) hk
      ·
        rw [gs]
        refine w_tabIn X.1 (dflt := 1854) (lo := 0) (hi := 43) (offs := #[192, 265, 293, 321, 334, 374, 435, 484, 524, 564, 616, 656, 708, 748, 776, 816, 844, 872, 900, 913, 926, 954, 982, 1010, 1050, 1063, 1091, 1131, 1159, 1199, 1239, 1279, 1331, 1371, 1399, 1455, 1519, 1627, 1655, 1735, 1775, 1803, 1816, 1829]) (len := 192) (off := 1455) (t := 1495) (ax_d X (show cdA 350 40 = some (.tableswitch 1854 0 43 #[192, 265, 293, 321, 334, 374, 435, 484, 524, 564, 616, 656, 708, 748, 776, 816, 844, 872, 900, 913, 926, 954, 982, 1010, 1050, 1063, 1091, 1131, 1159, 1199, 1239, 1279, 1331, 1371, 1399, 1455, 1519, 1627, 1655, 1735, 1775, 1803, 1816, 1829], 192, 0, 0, 0) from rfl)) (by decide) (by decide) (by decide) (by decide) ?_
        exact lc_35 G GR SF GT X E S hL I jR  p1 p2 p3 (by omega) (by omega) (by omega) hk
      ·
        rw [gs]
        refine w_tabIn X.1 (dflt := 1854) (lo := 0) (hi := 43) (offs := #[192, 265, 293, 321, 334, 374, 435, 484, 524, 564, 616, 656, 708, 748, 776, 816, 844, 872, 900, 913, 926, 954, 982, 1010, 1050, 1063, 1091, 1131, 1159, 1199, 1239, 1279, 1331, 1371, 1399, 1455, 1519, 1627, 1655, 1735, 1775, 1803, 1816, 1829]) (len := 192) (off := 1519) (t := 1559) (ax_d X (show cdA 350 40 = some (.tableswitch 1854 0 43 #[192, 265, 293, 321, 334, 374, 435, 484, 524, 564, 616, 656, 708, 748, 776, 816, 844, 872, 900, 913, 926, 954, 982, 1010, 1050, 1063, 1091, 1131, 1159, 1199, 1239, 1279, 1331, 1371, 1399, 1455, 1519, 1627, 1655, 1735, 1775, 1803, 1816, 1829], 192, 0, 0, 0) from rfl)) (by decide) (by decide) (by decide) (by decide) ?_
        exact lc_36 G GR SF GT X E S hL I jR  p1 p2 p3 (by omega) (by omega) (by omega) hk
      ·
        rw [gs]
        refine w_tabIn X.1 (dflt := 1854) (lo := 0) (hi := 43) (offs := #[192, 265, 293, 321, 334, 374, 435, 484, 524, 564, 616, 656, 708, 748, 776, 816, 844, 872, 900, 913, 926, 954, 982, 1010, 1050, 1063, 1091, 1131, 1159, 1199, 1239, 1279, 1331, 1371, 1399, 1455, 1519, 1627, 1655, 1735, 1775, 1803, 1816, 1829]) (len := 192) (off := 1627) (t := 1667) (ax_d X (show cdA 350 40 = some (.tableswitch 1854 0 43 #[192, 265, 293, 321, 334, 374, 435, 484, 524, 564, 616, 656, 708, 748, 776, 816, 844, 872, 900, 913, 926, 954, 982, 1010, 1050, 1063, 1091, 1131, 1159, 1199, 1239, 1279, 1331, 1371, 1399, 1455, 1519, 1627, 1655, 1735, 1775, 1803, 1816, 1829], 192, 0, 0, 0) from rfl)) (by decide) (by decide) (by decide) (by decide) ?_
        exact lc_37 G GR SF GT X E S hL I jR  p1 p2 p3 (by omega) (by omega) (by omega) hk
      ·
        rw [gs]
        refine w_tabIn X.1 (dflt := 1854) (lo := 0) (hi := 43) (offs := #[192, 265, 293, 321, 334, 374, 435, 484, 524, 564, 616, 656, 708, 748, 776, 816, 844, 872, 900, 913, 926, 954, 982, 1010, 1050, 1063, 1091, 1131, 1159, 1199, 1239, 1279, 1331, 1371, 1399, 1455, 1519, 1627, 1655, 1735, 1775, 1803, 1816, 1829]) (len := 192) (off := 1655) (t := 1695) (ax_d X (show cdA 350 40 = some (.tableswitch 1854 0 43 #[192, 265, 293, 321, 334, 374, 435, 484, 524, 564, 616, 656, 708, 748, 776, 816, 844, 872, 900, 913, 926, 954, 982, 1010, 1050, 1063, 1091, 1131, 1159, 1199, 1239, 1279, 1331, 1371, 1399, 1455, 1519, 1627, 1655, 1735, 1775, 1803, 1816, 1829], 192, 0, 0, 0) from rfl)) (by decide) (by decide) (by decide) (by decide) ?_
        exact lc_38 G GR SF GT X E S hL I jR  p1 p2 p3 (by omega) (by omega) (by omega) hk
      ·
        rw [gs]
        refine w_tabIn X.1 (dflt := 1854) (lo := 0) (hi := 43) (offs := #[192, 265, 293, 321, 334, 374, 435, 484, 524, 564, 616, 656, 708, 748, 776, 816, 844, 872, 900, 913, 926, 954, 982, 1010, 1050, 1063, 1091, 1131, 1159, 1199, 1239, 1279, 1331, 1371, 1399, 1455, 1519, 1627, 1655, 1735, 1775, 1803, 1816, 1829]) (len := 192) (off := 1735) (t := 1775) (ax_d X (show cdA 350 40 = some (.tableswitch 1854 0 43 #[192, 265, 293, 321, 334, 374, 435, 484, 524, 564, 616, 656, 708, 748, 776, 816, 844, 872, 900, 913, 926, 954, 982, 1010, 1050, 1063, 1091, 1131, 1159, 1199, 1239, 1279, 1331, 1371, 1399, 1455, 1519, 1627, 1655, 1735, 1775, 1803, 1816, 1829], 192, 0, 0, 0) from rfl)) (by decide) (by decide) (by decide) (by decide) ?_
        exact lc_39 G GR SF GT X E S hL I jR  p1 p2 p3 (by omega) (by omega) (by omega) hk
      ·
        rw [gs]
        refine w_tabIn X.1 (dflt := 1854) (lo := 0) (hi := 43) (offs := #[192, 265, 293, 321, 334, 374, 435, 484, 524, 564, 616, 656, 708, 748, 776, 816, 844, 872, 900, 913, 926, 954, 982, 1010, 1050, 1063, 1091, 1131, 1159, 1199, 1239, 1279, 1331, 1371, 1399, 1455, 1519, 1627, 1655, 1735, 1775, 1803, 1816, 1829]) (len := 192) (off := 1775) (t := 1815) (ax_d X (show cdA 350 40 = some (.tableswitch 1854 0 43 #[192, 265, 293, 321, 334, 374, 435, 484, 524, 564, 616, 656, 708, 748, 776, 816, 844, 872, 900, 913, 926, 954, 982, 1010, 1050, 1063, 1091, 1131, 1159, 1199, 1239, 1279, 1331, 1371, 1399, 1455, 1519, 1627, 1655, 1735, 1775, 1803, 1816, 1829], 192, 0, 0, 0) from rfl)) (by decide) (by decide) (by decide) (by decide) ?_
        exact lc_40 G GR SF GT X E S hL I jR  p1 p2 p3 (by omega) (by omega) (by omega) hk
      ·
        rw [gs]
        refine w_tabIn X.1 (dflt := 1854) (lo := 0) (hi := 43) (offs := #[192, 265, 293, 321, 334, 374, 435, 484, 524, 564, 616, 656, 708, 748, 776, 816, 844, 872, 900, 913, 926, 954, 982, 1010, 1050, 1063, 1091, 1131, 1159, 1199, 1239, 1279, 1331, 1371, 1399, 1455, 1519, 1627, 1655, 1735, 1775, 1803, 1816, 1829]) (len := 192) (off := 1803) (t := 1843) (ax_d X (show cdA 350 40 = some (.tableswitch 1854 0 43 #[192, 265, 293, 321, 334, 374, 435, 484, 524, 564, 616, 656, 708, 748, 776, 816, 844, 872, 900, 913, 926, 954, 982, 1010, 1050, 1063, 1091, 1131, 1159, 1199, 1239, 1279, 1331, 1371, 1399, 1455, 1519, 1627, 1655, 1735, 1775, 1803, 1816, 1829], 192, 0, 0, 0) from rfl)) (by decide) (by decide) (by decide) (by decide) ?_
        exact lc_41 G GR SF GT X E S hL I jR  p1 p2 p3 (by omega) (by omega) (by omega) hk
      ·
        rw [gs]
        refine w_tabIn X.1 (dflt := 1854) (lo := 0) (hi := 43) (offs := #[192, 265, 293, 321, 334, 374, 435, 484, 524, 564, 616, 656, 708, 748, 776, 816, 844, 872, 900, 913, 926, 954, 982, 1010, 1050, 1063, 1091, 1131, 1159, 1199, 1239, 1279, 1331, 1371, 1399, 1455, 1519, 1627, 1655, 1735, 1775, 1803, 1816, 1829]) (len := 192) (off := 1816) (t := 1856) (ax_d X (show cdA 350 40 = some (.tableswitch 1854 0 43 #[192, 265, 293, 321, 334, 374, 435, 484, 524, 564, 616, 656, 708, 748, 776, 816, 844, 872, 900, 913, 926, 954, 982, 1010, 1050, 1063, 1091, 1131, 1159, 1199, 1239, 1279, 1331, 1371, 1399, 1455, 1519, 1627, 1655, 1735, 1775, 1803, 1816, 1829], 192, 0, 0, 0) from rfl)) (by decide) (by decide) (by decide) (by decide) ?_
        exact lc_42 G GR SF GT X E S hL I jR  p1 p2 p3 (by omega) (by omega) (by omega) hk
      ·
        rw [gs]
        refine w_tabIn X.1 (dflt := 1854) (lo := 0) (hi := 43) (offs := #[192, 265, 293, 321, 334, 374, 435, 484, 524, 564, 616, 656, 708, 748, 776, 816, 844, 872, 900, 913, 926, 954, 982, 1010, 1050, 1063, 1091, 1131, 1159, 1199, 1239, 1279, 1331, 1371, 1399, 1455, 1519, 1627, 1655, 1735, 1775, 1803, 1816, 1829]) (len := 192) (off := 1829) (t := 1869) (ax_d X (show cdA 350 40 = some (.tableswitch 1854 0 43 #[192, 265, 293, 321, 334, 374, 435, 484, 524, 564, 616, 656, 708, 748, 776, 816, 844, 872, 900, 913, 926, 954, 982, 1010, 1050, 1063, 1091, 1131, 1159, 1199, 1239, 1279, 1331, 1371, 1399, 1455, 1519, 1627, 1655, 1735, 1775, 1803, 1816, 1829], 192, 0, 0, 0) from rfl)) (by decide) (by decide) (by decide) (by decide) ?_
        exact lc_43 G GR SF GT X E S hL I jR  p1 p2 p3 (by omega) (by omega) (by omega) hk
      ·
        refine w_tabOut X.1 (dflt := 1854) (lo := 0) (hi := 43) (offs := #[192, 265, 293, 321, 334, 374, 435, 484, 524, 564, 616, 656, 708, 748, 776, 816, 844, 872, 900, 913, 926, 954, 982, 1010, 1050, 1063, 1091, 1131, 1159, 1199, 1239, 1279, 1331, 1371, 1399, 1455, 1519, 1627, 1655, 1735, 1775, 1803, 1816, 1829]) (len := 192) (t := 1894) (ax_d X (show cdA 350 40 = some (.tableswitch 1854 0 43 #[192, 265, 293, 321, 334, 374, 435, 484, 524, 564, 616, 656, 708, 748, 776, 816, 844, 872, 900, 913, 926, 954, 982, 1010, 1050, 1063, 1091, 1131, 1159, 1199, 1239, 1279, 1331, 1371, 1399, 1455, 1519, 1627, 1655, 1735, 1775, 1803, 1816, 1829], 192, 0, 0, 0) from rfl)) (by rw [zi ⟨by omega, by omega⟩]; omega) (by decide) ?_
        refine w_widen (ce' := 518 + 29 * m + 29) (sl' := 23524 + 222 * m + 222) (by omega) (by omega) ?_
        exact hk A s I jR  p1 p2 p3
end M88
