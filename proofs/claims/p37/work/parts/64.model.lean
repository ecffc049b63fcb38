section
theorem oq_d855cead {a0 : Int} (h0 : a0 < 12) : (a0 : Int).toNat < 12 := by omega
theorem oq_6a25a379 {a0 : Int} (h0 : a0 < 12) : (a0 + 1) ≤ 12 := by omega
theorem oq_ab2484cf {a0 : Int} (h0 : a0 < 12) : 0 < (12 - a0) := by omega
theorem oq_39d2cc6e {a0 a1 : Int} (h0 : a0 ≤ a1) (h1 : a1 ≤ 12) : a0 ≤ 2147483647 := by omega
theorem oq_a4cf3503 : 10 + 1 ≤ (12 + (52 + (0))) := by omega
theorem oq_4290aa94 : 8 + (5 + 11) + 189 ≤ (500 + 45 * (52 + (0))) := by omega
theorem oq_d960365c : 37 + 1 ≤ (12 + (52 + (0))) := by omega
theorem oq_e5119b40 : 8 + (2 + 11) + 1578 ≤ (500 + 45 * (52 + (0))) := by omega
theorem oq_f46e1d28 {a0 : Int} (h0 : a0 < 4) : a0 ≤ 2147483647 := by omega
theorem oq_07dfda71 {a0 : Int} (h0 : a0 = 3) : 0 ≤ a0 := by omega
theorem oq_abfb379f {a0 : Int} (h0 : a0 = 3) : a0 ≤ 3 := by omega
theorem oq_5e17cb06 {a0 : Int} (h0 : a0 = 3) : (-2147483648) ≤ a0 := by omega
theorem oq_ebfd4642 {a0 : Int} (h0 : a0 = 3) : a0 ≤ 2147483647 := by omega
theorem oq_edd5f4e9 (r : Nat) : 8 + 1 ≤ (12 + (52 + (r + 1))) := by omega
theorem oq_2709c6fe (r : Nat) : 8 + (5 + 11) + 146 ≤ (500 + 45 * (52 + (r + 1))) := by omega
theorem oq_c0bca489 {a0 a1 a2 a3 a4 : Int} (h0 : a0 = a1) (h1 : a2 = a3) (h2 : a1 = a4) (h3 : a2 < a4) : a3 ≤ a0 := by omega
theorem oq_c268f935 (r : Nat) : (12 + (52 + (r))) + 1 ≤ (12 + (52 + (r + 1))) := by omega
theorem oq_488e467a (r : Nat) : 8 + (8 + 11) + (500 + 45 * (52 + (r))) ≤ (500 + 45 * (52 + (r + 1))) := by omega
theorem oq_e14d47df {a0 a1 a2 a3 : Int} (h0 : a0 = a1) (h1 : a1 = a2) (h2 : a2 = a3) (h3 : a3 ≤ 8) : a0 ≤ 8 := by omega
theorem oq_25f0e837 {a0 : Int} (h0 : a0 = 3) : 1 ≤ (a0 + 1) := by omega
theorem oq_a93cab5a {a0 : Int} (h0 : a0 = 3) : (a0 + 1) ≤ 4 := by omega
theorem oq_7ba9b3ae {a0 : Int} (h0 : a0 = 3) : 0 < (4 - a0) := by omega
theorem oq_af66aac3 {a0 : Int} (h0 : a0 = 2) : 1 ≤ (a0 + 1) := by omega
theorem oq_8a625f99 {a0 : Int} (h0 : a0 = 2) : (a0 + 1) ≤ 4 := by omega
theorem oq_07728ffc {a0 : Int} (h0 : a0 = 2) : 0 < (4 - a0) := by omega
theorem oq_2cfdb1ef {a0 : Int} (h0 : a0 = 2) : (-2147483648) ≤ a0 := by omega
theorem oq_9e96a037 {a0 : Int} (h0 : a0 = 2) : a0 ≤ 2147483647 := by omega
theorem oq_d3dec1fc {a0 : Int} (h0 : a0 = 2) : 0 ≤ a0 := by omega
theorem oq_783454c6 {a0 : Int} (h0 : a0 = 2) : a0 ≤ 3 := by omega
theorem oq_82935c17 {a0 : Int} (h0 : a0 = 1) : 1 ≤ (a0 + 1) := by omega
theorem oq_0a5951b8 {a0 : Int} (h0 : a0 = 1) : (a0 + 1) ≤ 4 := by omega
theorem oq_6b61a495 {a0 : Int} (h0 : a0 = 1) : 0 < (4 - a0) := by omega
theorem oq_c4d5fd5b {a0 : Int} (h0 : a0 = 1) : (-2147483648) ≤ a0 := by omega
theorem oq_9b80f9a5 {a0 : Int} (h0 : a0 = 1) : a0 ≤ 2147483647 := by omega
theorem oq_a1cdbcd8 {a0 : Int} (h0 : a0 = 1) : 0 ≤ a0 := by omega
theorem oq_c7e375ff {a0 : Int} (h0 : a0 = 1) : a0 ≤ 3 := by omega
theorem oq_1fa780f7 {a0 a1 : Int} (h0 : a0 ≠ a1) (h1 : a1 ≤ 8) (h2 : a0 ≤ a1) : a0 < 8 := by omega
theorem oq_54c6e91f {a0 a1 : Int} (h0 : a0 ≠ a1) (h1 : a1 ≤ 8) (h2 : a0 ≤ a1) : (a0 : Int).toNat < 8 := by omega
theorem oq_04dc1188 (r : Nat) : 10 + 1 ≤ (12 + (52 + (r + 1))) := by omega
theorem oq_bb8002ac (r : Nat) : 8 + (5 + 11) + 189 ≤ (500 + 45 * (52 + (r + 1))) := by omega
theorem oq_35b456ef (r : Nat) : 37 + 1 ≤ (12 + (52 + (r + 1))) := by omega
theorem oq_14bb5664 (r : Nat) : 8 + (2 + 11) + 1578 ≤ (500 + 45 * (52 + (r + 1))) := by omega
theorem oq_1fea0193 {a0 a1 a2 a3 a4 : Int} (h0 : a0 = a1) (h1 : a1 = a2) (h2 : a2 ≤ a3) (h3 : a3 < a4) (h4 : a4 ≤ 12) : (a0 + 1) ≤ 12 := by omega
theorem oq_11bbe77e {a0 a1 a2 a3 a4 : Int} (h0 : a0 = a1) (h1 : a2 < a3) (h2 : a1 = a4) (h3 : a4 = a3) : (a2 + 1) ≤ a0 := by omega
theorem oq_9004941c {a0 a1 a2 a3 a4 : Int} (h0 : a0 = (a1 + 1)) (h1 : a2 ≤ a3) (h2 : a4 = a2) (h3 : a1 = a4) : a0 ≤ (a3 + 1) := by omega
theorem oq_8be37138 {a0 a1 : Int} (h0 : a0 < a1) (h1 : a1 ≤ 12) : a0 ≤ 2147483647 := by omega
theorem oq_8860b8cf {a0 a1 : Int} (h0 : a0 = a1) (h1 : a1 < 8) : (a0 + 1) ≤ 12 := by omega
theorem oq_2e1f687c {a0 a1 a2 a3 : Int} (h0 : a0 = a1) (h1 : a2 ≤ a3) (h2 : a1 = a2) : a0 ≤ (a3 + 1) := by omega
theorem oq_ea8cf281 {a0 a1 a2 a3 a4 : Int} (h0 : a0 = a1) (h1 : a1 = a2) (h2 : a2 = a3) (h3 : a3 = a4) (h4 : 0 ≤ a4) : 0 ≤ a0 := by omega
theorem oq_1af0b4f8 {a0 : Int} (h0 : a0 = 0) : a0 ≤ 0 := by omega
theorem oq_26188e76 : 72 + 1 ≤ 73 := by omega
theorem oq_e592698d : 8 + (8 + 11) + 3200 ≤ 3227 := by omega
theorem oq_33feeab9 {a0 : Int} (h0 : a0 ≠ (-1)) (h1 : (-2) ≤ a0) (h2 : a0 ≠ (-2)) : 0 ≤ a0 := by omega
theorem oq_5933ef41 {a0 a1 : Int} (h0 : a0 ≠ 0) (h1 : ((a0 = 1 ∧ (0 ≤ a1 ∧ a1 ≤ 8)) ∨ (a0 = 0 ∧ (a1 < 0 ∨ 8 < a1)))) : (0 ≤ a1 ∧ a1 ≤ 8) := by omega
/-! The model: mends -/
section M64
variable {l : Launch} {s0 : State} {D : va_G} {tys : List (ClassId × FieldType)} {a0 : Array Value} {A : Nat → Nat} {dT : Nat → ClassId} {s : PS}
end M64
end
section
theorem oq_2d160f3c {a0 a1 : Int} (h0 : a0 ≤ a1) : (a0 + 0) ≤ (a1 + 1) := by omega
theorem oq_36716223 {a0 : Int} (h0 : a0 ≤ 11) : a0 ≤ 2147483647 := by omega
/-! The model: lead -/
section M65
variable {l : Launch} {s0 : State} {D : va_G} {tys : List (ClassId × FieldType)} {a0 : Array Value} {A : Nat → Nat} {dT : Nat → ClassId} {s : PS}
set_option maxRecDepth 4000 in
theorem k_lead (G : GX l s0 D tys a0 dT) (I : Bd s) (jRLx : RLx s) {x y z w : Int} (p0 : rng x) (p1 : rng y) (p2 : rng z) (p3 : w = 0 ∨ w = 1) : CT l s0 D A dT 290 (rmN 290) [.ref (A 179), .int (Int32.ofInt x), .int (Int32.ofInt y), .int (Int32.ofInt z), .int (Int32.ofInt w)] s (fun o t => Bd t ∧ Fm [73, 77, 75, 78, 79, 80, 81] [202, 204, 205, 206, 207, 208, 209, 210, 211, 212, 213, 214, 215, 216, 217, 218, 219, 220, 221, 222, 223, 224, 225, 226, 227, 203, 161, 230] s t ∧ RLx t ∧ ∃ e, o = .inl (some (.int (Int32.ofInt e))) ∧ rng e ∧ (True)) := by
  refine ct_of G (by decide) (Nat.le_of_ble_eq_true rfl) (fun k X E hRt hXt q => ?_)
  show WS k 0 [(0, .ref (A 179)), (1, .int (Int32.ofInt x)), (2, .int (Int32.ofInt y)), (3, .int (Int32.ofInt z)), (4, .int (Int32.ofInt w))] [] _ 0 0
  have F : Fm [73, 77, 75, 78, 79, 80, 81] [202, 204, 205, 206, 207, 208, 209, 210, 211, 212, 213, 214, 215, 216, 217, 218, 219, 220, 221, 222, 223, 224, 225, 226, 227, 203, 161, 230] s s := fm_rf _ _ s
  have b1 := bi_73 I
  have b2 := bi_90 I
  have L65 : ∀ (q1 : Nat) (n : Nat) (t : PS) (zv wv al a : Int), Bd t → FmX [73, 77, 75, 78, 79, 80, 81] [202, 204, 205, 206, 207, 208, 209, 210, 211, 212, 213, 214, 215, 216, 217, 218, 219, 220, 221, 222, 223, 224, 225, 226, 227, 203, 161, 230] s t → RLx t → (EXl (pX s) (dT 0) [(q1, 12)] t ∧ NW t) → (rng zv ∧ (wv = 0 ∨ wv = 1) ∧ rng al ∧ 0 ≤ a ∧ a ≤ 12) → (12 - a : Int).toNat < n → (∀ (t' : PS) (a' : Int), Bd t' → FmX [73, 77, 75, 78, 79, 80, 81] [202, 204, 205, 206, 207, 208, 209, 210, 211, 212, 213, 214, 215, 216, 217, 218, 219, 220, 221, 222, 223, 224, 225, 226, 227, 203, 161, 230] s t' → RLx t' → (EXl (pX s) (dT 0) [(q1, 12)] t' ∧ NW t') → (rng zv ∧ (wv = 0 ∨ wv = 1) ∧ rng al ∧ 0 ≤ a' ∧ a' ≤ 12) → WS k 118 [(0, .ref (A 179)), (6, .ref q1), (3, .int (Int32.ofInt zv)), (4, .int (Int32.ofInt wv)), (5, .int (Int32.ofInt al)), (7, .int (Int32.ofInt a'))] [] (Wd A dT t') 1 12) → WS k 65 [(0, .ref (A 179)), (6, .ref q1), (3, .int (Int32.ofInt zv)), (4, .int (Int32.ofInt wv)), (5, .int (Int32.ofInt al)), (7, .int (Int32.ofInt a))] [] (Wd A dT t) 1 12 := by
    intro q1 n
    induction n with
    | zero =>
      intro t zv wv al a I F jjRLx hq hi hm kx
      exact absurd hm (Nat.not_lt_zero _)
    | succ n ih =>
      intro t zv wv al a I F jjRLx hq hi hm kx
      have b1001 := bi_73 I
      have b1002 := bi_90 I
      refine z_load X (x := a) rfl (List.Mem.tail _ (List.Mem.tail _ (List.Mem.tail _ (List.Mem.tail _ (List.Mem.tail _ (List.Mem.head _)))))) (z_aload_n X (x := A 179) rfl (List.Mem.head _) (z_getI X 179 rfl (c518_ok rfl) rfl rfl ?_))
      have b1003 := bi_90 I
      refine z_icmp_ge X (t := 118) rfl rfl ⟨by first | exact oq_fa4e5087 hi.2.2.2.1 | omega, by first | exact oq_78843a64 hi.2.2.2.2 | omega⟩ (rng_to _) (fun g1004 => ?_) (fun g1004 => ?_)
      ·
        refine WS_pq [0, 1, 2, 3, 4, 5] (lv' := [(0, .ref (A 179)), (6, .ref q1), (3, .int (Int32.ofInt zv)), (4, .int (Int32.ofInt wv)), (5, .int (Int32.ofInt al)), (7, .int (Int32.ofInt a))]) rfl ?_
        exact kx _ a I F jjRLx ⟨hq.1, hq.2⟩ (by first | exact ⟨And.intro (hi.1.1) (hi.1.2), hi.2.1, And.intro (hi.2.2.1.1) (hi.2.2.1.2), hi.2.2.2.1, hi.2.2.2.2⟩ | omega)
      ·
        refine z_aload_n X (x := A 179) rfl (List.Mem.head _) (s_getR X 179 rfl (c518_ok rfl) rfl rfl (z_load X (x := a) rfl (List.Mem.tail _ (List.Mem.tail _ (List.Mem.tail _ (List.Mem.tail _ (List.Mem.tail _ (List.Mem.head _)))))) (z_ald X 229 rfl (c518_ok rfl) rfl (by first | exact hi.2.2.2.1 | omega) (show a < 12 by first | exact oq_f36e82a8 g1004 b1003.2 | omega) (cbig_ok rfl) ?_)))
        have b1005 := bc_203 I (show (a).toNat < 12 by first | exact oq_2dac6850 g1004 b1003.2 | omega)
        refine z_store X (lv' := [(8, .int (Int32.ofInt (iC t 203 (a).toNat))), (0, .ref (A 179)), (6, .ref q1), (3, .int (Int32.ofInt zv)), (4, .int (Int32.ofInt wv)), (5, .int (Int32.ofInt al)), (7, .int (Int32.ofInt a))]) rfl (by decide) (fun _ h => h) (z_aload_n X (x := A 179) rfl (List.Mem.tail _ (List.Mem.head _)) (s_getR X 179 rfl (c518_ok rfl) rfl rfl (z_load X (x := a) rfl (List.Mem.tail _ (List.Mem.tail _ (List.Mem.tail _ (List.Mem.tail _ (List.Mem.tail _ (List.Mem.tail _ (List.Mem.head _))))))) (z_const X rfl (z_ast X 229 rfl (c518_ok rfl) rfl (by first | exact hi.2.2.2.1 | omega) (show a < 12 by first | exact oq_f36e82a8 g1004 b1003.2 | omega) (cbig_ok rfl) (wd_gen (fun s1006 hs1006 => ?_)))))))
        have Is1006 : Bd s1006 := eqB hs1006 (bd_C I (show (0 : Int) ≤ 0 ∧ 0 ≤ 50 by first | exact ⟨by decide, by decide⟩ | omega) (by decide))
        have Fs1006 := fx_C (i := (a).toNat) (x := Int32.ofInt 0) F (show 203 ∈ _ by decide)
        rw [← hs1006] at Fs1006
        have ws1006_73 : iI s1006 73 = iI t 73 := eqI hs1006 rfl
        have ws1006_90 : iI s1006 90 = iI t 90 := eqI hs1006 rfl
        have fs1006 : Fm [] [203] t s1006 := by rw [hs1006]; exact fm_C (fm_rf _ _ _) (show 203 ∈ _ by decide)
        have JRLx_s1006 : RLx s1006 := RLx_fm fs1006 (by decide) jjRLx
        have JEX_s1006 : EXl (pX s) (dT 0) [(q1, 12)] s1006 := EX_fm fs1006 hq.1
        have JNW_s1006 : NW s1006 := NW_fm fs1006 (by decide) hq.2
        refine z_aload X (x := q1) rfl (List.Mem.tail _ (List.Mem.tail _ (List.Mem.head _))) (z_load X (x := a) rfl (List.Mem.tail _ (List.Mem.tail _ (List.Mem.tail _ (List.Mem.tail _ (List.Mem.tail _ (List.Mem.tail _ (List.Mem.head _))))))) (z_load X (x := al) rfl (List.Mem.tail _ (List.Mem.tail _ (List.Mem.tail _ (List.Mem.tail _ (List.Mem.tail _ (List.Mem.head _)))))) (z_aload_n X (x := A 179) rfl (List.Mem.tail _ (List.Mem.head _)) (z_callV X 179 (rm := rmN 228) (As := []) (st := [.int (Int32.ofInt al), .int (Int32.ofInt a), .ref q1]) rfl rfl (by decide) rfl (by rw [E.1, E.2.1, E.2.2.1]; exact k_load G Is1006 JNW_s1006 ) ⟨by rw [E.2.2.2]; exact (show (rmN 228).frames + 1 ≤ (rmN 290).frames by decide), by rw [E.2.2.2]; exact (show 8 + (mNL (miB 228) + 11) + (rmN 228).locals ≤ (rmN 290).locals by decide), by rw [E.2.2.2]; exact (show 1 + 0 ≤ 1 by decide), by rw [E.2.2.2]; exact (show 12 + 0 ≤ 12 by decide)⟩ (Nat.le_of_ble_eq_true rfl) (fun vv s1007 hq => ?_) (fun ee s1007 hq => ?_)))))
        rotate_left
        · obtain ⟨Is1007, Fs1007, JNW_s1007, e1008, hv, hrs1007, hps1007⟩ := hq; cases hv
        obtain ⟨Is1007, Fs1007, JNW_s1007, e1008, hv, hrs1007, hps1007⟩ := hq
        cases hv
        have Gs1007 := fx_ts Fs1006 Fs1007 (by decide) (by decide)
        have JRLx_s1007 : RLx s1007 := RLx_fm Fs1007 (by decide) JRLx_s1006
        have JEX_s1007 : EXl (pX s) (dT 0) [(q1, 12)] s1007 := EX_fm Fs1007 JEX_s1006
        have JNW_s1007 : NW s1007 := NW_fm Fs1007 (by decide) JNW_s1006
        have ws1007_73 : iI s1007 73 = iI s1006 73 := fm_iq Fs1007 rfl
        have ws1007_90 : iI s1007 90 = iI s1006 90 := fm_iq Fs1007 rfl
        show WS k 101 [(8, .int (Int32.ofInt (iC t 203 (a).toNat))), (0, .ref (A 179)), (6, .ref q1), (3, .int (Int32.ofInt zv)), (4, .int (Int32.ofInt wv)), (5, .int (Int32.ofInt al)), (7, .int (Int32.ofInt a))] [.int (Int32.ofInt e1008), .int (Int32.ofInt al), .int (Int32.ofInt a), .ref q1] (Wd A dT s1007) 1 12
        refine z_sub X rfl (z_any (fun y1009 hy1009 => ?_))
        refine z_xast X JEX_s1007 0 rfl rfl (by first | exact hi.2.2.2.1 | omega) (show a < 12 by first | exact oq_f36e82a8 g1004 b1003.2 | omega) (by decide) (fun ps1010 es1010 => ?_)
        have Is1010 : Bd (sx s1007 ps1010) := Is1007
        have Fs1010 : FmX [73, 77, 75, 78, 79, 80, 81] [202, 204, 205, 206, 207, 208, 209, 210, 211, 212, 213, 214, 215, 216, 217, 218, 219, 220, 221, 222, 223, 224, 225, 226, 227, 203, 161, 230] s (sx s1007 ps1010) := Gs1007
        have ws1010_73 : iI (sx s1007 ps1010) 73 = iI s1007 73 := rfl
        have ws1010_90 : iI (sx s1007 ps1010) 90 = iI s1007 90 := rfl
        have JRLx_s1010 : RLx (sx s1007 ps1010) := JRLx_s1007
        have JNW_s1010 : NW (sx s1007 ps1010) := JNW_s1007
        generalize sx s1007 ps1010 = s1010 at *
        refine z_aload_n X (x := A 179) rfl (List.Mem.tail _ (List.Mem.head _)) (s_getR X 179 rfl (c518_ok rfl) rfl rfl (z_load X (x := a) rfl (List.Mem.tail _ (List.Mem.tail _ (List.Mem.tail _ (List.Mem.tail _ (List.Mem.tail _ (List.Mem.tail _ (List.Mem.head _))))))) (z_load X (x := (iC t 203 (a).toNat)) rfl (List.Mem.head _) (z_ast X 229 rfl (c518_ok rfl) rfl (by first | exact hi.2.2.2.1 | omega) (show a < 12 by first | exact oq_f36e82a8 g1004 b1003.2 | omega) (cbig_ok rfl) (wd_gen (fun s1011 hs1011 => ?_))))))
        have Is1011 : Bd s1011 := eqB hs1011 (bd_C Is1010 (show (0 : Int) ≤ (iC t 203 (a).toNat) ∧ (iC t 203 (a).toNat) ≤ 50 by first | exact ⟨b1005.1, b1005.2⟩ | omega) (rng_to _))
        have Fs1011 := fx_C (i := (a).toNat) (x := Int32.ofInt (iC t 203 (a).toNat)) Fs1010 (show 203 ∈ _ by decide)
        rw [← hs1011] at Fs1011
        have ws1011_73 : iI s1011 73 = iI s1010 73 := eqI hs1011 rfl
        have ws1011_90 : iI s1011 90 = iI s1010 90 := eqI hs1011 rfl
        have fs1011 : Fm [] [203] s1010 s1011 := by rw [hs1011]; exact fm_C (fm_rf _ _ _) (show 203 ∈ _ by decide)
        have JRLx_s1011 : RLx s1011 := RLx_fm fs1011 (by decide) JRLx_s1010
        have JEX_s1011 : EXl (pX s) (dT 0) [(q1, 12)] s1011 := EX_fm fs1011 es1010
        have JNW_s1011 : NW s1011 := NW_fm fs1011 (by decide) JNW_s1010
        refine z_inc X (x := a) (lv' := [(7, .int (Int32.ofInt (a + 1))), (8, .int (Int32.ofInt (iC t 203 (a).toNat))), (0, .ref (A 179)), (6, .ref q1), (3, .int (Int32.ofInt zv)), (4, .int (Int32.ofInt wv)), (5, .int (Int32.ofInt al))]) rfl (by decide) (List.Mem.tail _ (List.Mem.tail _ (List.Mem.tail _ (List.Mem.tail _ (List.Mem.tail _ (List.Mem.tail _ (List.Mem.head _))))))) (fun _ h => h) (z_goto X (t := 65) rfl rfl (WS_pq [2, 3, 4, 5, 6, 0] (lv' := [(0, .ref (A 179)), (6, .ref q1), (3, .int (Int32.ofInt zv)), (4, .int (Int32.ofInt wv)), (5, .int (Int32.ofInt al)), (7, .int (Int32.ofInt (a + 1)))]) rfl ?_))
        exact ih _ zv wv al (a + 1) Is1011 Fs1011 JRLx_s1011 ⟨JEX_s1011, JNW_s1011⟩ (by first | exact ⟨And.intro (hi.1.1) (hi.1.2), hi.2.1, And.intro (hi.2.2.1.1) (hi.2.2.1.2), oq_54f49eb5 hi.2.2.2.1, oq_4dae995e g1004 b1003.2⟩ | omega) (by first | exact qk_me hm (by decide) (oq_b575e8c1 g1004 b1003.2) | omega) kx
  have L136 : ∀ (q1 : Nat) (n : Nat) (t : PS) (zv wv a ah b : Int), Bd t → FmX [73, 77, 75, 78, 79, 80, 81] [202, 204, 205, 206, 207, 208, 209, 210, 211, 212, 213, 214, 215, 216, 217, 218, 219, 220, 221, 222, 223, 224, 225, 226, 227, 203, 161, 230] s t → RLx t → (EXl (pX s) (dT 0) [(q1, 12)] t ∧ NW t) → (rng zv ∧ (wv = 0 ∨ wv = 1) ∧ (0 ≤ a ∧ a ≤ 11) ∧ (0 ≤ ah ∧ ah ≤ b) ∧ b ≤ 12) → (12 - b : Int).toNat < n → (∀ (t' : PS) (ah' b' : Int), Bd t' → FmX [73, 77, 75, 78, 79, 80, 81] [202, 204, 205, 206, 207, 208, 209, 210, 211, 212, 213, 214, 215, 216, 217, 218, 219, 220, 221, 222, 223, 224, 225, 226, 227, 203, 161, 230] s t' → RLx t' → (EXl (pX s) (dT 0) [(q1, 12)] t' ∧ NW t') → (rng zv ∧ (wv = 0 ∨ wv = 1) ∧ (0 ≤ a ∧ a ≤ 11) ∧ (0 ≤ ah' ∧ ah' ≤ b') ∧ b' ≤ 12) → WS k 202 [(0, .ref (A 179)), (6, .ref q1), (3, .int (Int32.ofInt zv)), (4, .int (Int32.ofInt wv)), (7, .int (Int32.ofInt a)), (8, .int (Int32.ofInt ah')), (9, .int (Int32.ofInt b'))] [] (Wd A dT t') 1 12) → WS k 136 [(0, .ref (A 179)), (6, .ref q1), (3, .int (Int32.ofInt zv)), (4, .int (Int32.ofInt wv)), (7, .int (Int32.ofInt a)), (8, .int (Int32.ofInt ah)), (9, .int (Int32.ofInt b))] [] (Wd A dT t) 1 12 := by
    intro q1 n
    induction n with
    | zero =>
      intro t zv wv a ah b I F jjRLx hq hi hm kx
      exact absurd hm (Nat.not_lt_zero _)
    | succ n ih =>
      intro t zv wv a ah b I F jjRLx hq hi hm kx
      have b2001 := bi_73 I
      have b2002 := bi_90 I
      refine z_load X (x := b) rfl (List.Mem.tail _ (List.Mem.tail _ (List.Mem.tail _ (List.Mem.tail _ (List.Mem.tail _ (List.Mem.tail _ (List.Mem.head _))))))) (z_aload_n X (x := A 179) rfl (List.Mem.head _) (z_getI X 179 rfl (c518_ok rfl) rfl rfl ?_))
      have b2003 := bi_90 I
      refine z_icmp_ge X (t := 202) rfl rfl ⟨by first | exact oq_e001bc0d hi.2.2.2.1.2 hi.2.2.2.1.1 | omega, by first | exact oq_78843a64 hi.2.2.2.2 | omega⟩ (rng_to _) (fun g2004 => ?_) (fun g2004 => ?_)
      ·
        refine WS_pq [0, 1, 2, 3, 4, 5, 6] (lv' := [(0, .ref (A 179)), (6, .ref q1), (3, .int (Int32.ofInt zv)), (4, .int (Int32.ofInt wv)), (7, .int (Int32.ofInt a)), (8, .int (Int32.ofInt ah)), (9, .int (Int32.ofInt b))]) rfl ?_
        exact kx _ ah b I F jjRLx ⟨hq.1, hq.2⟩ (by first | exact ⟨And.intro (hi.1.1) (hi.1.2), hi.2.1, And.intro (hi.2.2.1.1) (hi.2.2.1.2), And.intro (hi.2.2.2.1.1) (hi.2.2.2.1.2), hi.2.2.2.2⟩ | omega)
      ·
        refine z_load X (x := ah) rfl (List.Mem.tail _ (List.Mem.tail _ (List.Mem.tail _ (List.Mem.tail _ (List.Mem.tail _ (List.Mem.head _)))))) (z_aload X (x := q1) rfl (List.Mem.tail _ (List.Mem.head _)) (z_load X (x := b) rfl (List.Mem.tail _ (List.Mem.tail _ (List.Mem.tail _ (List.Mem.tail _ (List.Mem.tail _ (List.Mem.tail _ (List.Mem.head _))))))) (z_xald X hq.1 0 rfl rfl (by first | exact oq_12a1f9e1 hi.2.2.2.1.2 hi.2.2.2.1.1 | omega) (show b < 12 by first | exact oq_f36e82a8 g2004 b2003.2 | omega) (by decide) (fun y2005 hy2005 => ?_))))
        refine z_if_eq X (t := 192) rfl rfl hy2005 (fun g2006 => ?_) (fun g2006 => ?_)
        ·
          refine z_const X rfl (z_add X rfl (z_store X (lv' := [(8, .int (Int32.ofInt (ah + 0))), (0, .ref (A 179)), (6, .ref q1), (3, .int (Int32.ofInt zv)), (4, .int (Int32.ofInt wv)), (7, .int (Int32.ofInt a)), (9, .int (Int32.ofInt b))]) rfl (by decide) (fun _ h => h) (z_inc X (x := b) (lv' := [(9, .int (Int32.ofInt (b + 1))), (8, .int (Int32.ofInt (ah + 0))), (0, .ref (A 179)), (6, .ref q1), (3, .int (Int32.ofInt zv)), (4, .int (Int32.ofInt wv)), (7, .int (Int32.ofInt a))]) rfl (by decide) (List.Mem.tail _ (List.Mem.tail _ (List.Mem.tail _ (List.Mem.tail _ (List.Mem.tail _ (List.Mem.tail _ (List.Mem.head _))))))) (fun _ h => h) (z_goto X (t := 136) rfl rfl (WS_pq [2, 3, 4, 5, 6, 1, 0] (lv' := [(0, .ref (A 179)), (6, .ref q1), (3, .int (Int32.ofInt zv)), (4, .int (Int32.ofInt wv)), (7, .int (Int32.ofInt a)), (8, .int (Int32.ofInt (ah + 0))), (9, .int (Int32.ofInt (b + 1)))]) rfl ?_)))))
          exact ih _ zv wv a (ah + 0) (b + 1) I F jjRLx ⟨hq.1, hq.2⟩ (by first | exact ⟨And.intro (hi.1.1) (hi.1.2), hi.2.1, And.intro (hi.2.2.1.1) (hi.2.2.1.2), And.intro (oq_590e7a3f hi.2.2.2.1.1) (oq_2d160f3c hi.2.2.2.1.2), oq_4dae995e g2004 b2003.2⟩ | omega) (by first | exact qk_me hm (by decide) (oq_b575e8c1 g2004 b2003.2) | omega) kx
        ·
          refine z_aload X (x := q1) rfl (List.Mem.tail _ (List.Mem.head _)) (z_load X (x := b) rfl (List.Mem.tail _ (List.Mem.tail _ (List.Mem.tail _ (List.Mem.tail _ (List.Mem.tail _ (List.Mem.tail _ (List.Mem.head _))))))) (z_xald X hq.1 0 rfl rfl (by first | exact oq_12a1f9e1 hi.2.2.2.1.2 hi.2.2.2.1.1 | omega) (show b < 12 by first | exact oq_f36e82a8 g2004 b2003.2 | omega) (by decide) (fun y2007 hy2007 => ?_)))
          refine z_aload X (x := q1) rfl (List.Mem.tail _ (List.Mem.head _)) (z_load X (x := a) rfl (List.Mem.tail _ (List.Mem.tail _ (List.Mem.tail _ (List.Mem.tail _ (List.Mem.head _))))) (z_xald X hq.1 0 rfl rfl (by first | exact hi.2.2.1.1 | omega) (show a < 12 by first | exact oq_0ddfcfee hi.2.2.1.2 | omega) (by decide) (fun y2008 hy2008 => ?_)))
          refine z_icmp_gt X (t := 188) rfl rfl hy2007 hy2008 (fun g2009 => ?_) (fun g2009 => ?_)
          ·
            refine z_const X rfl (z_goto X (t := 193) rfl rfl (z_add X rfl (z_store X (lv' := [(8, .int (Int32.ofInt (ah + 1))), (0, .ref (A 179)), (6, .ref q1), (3, .int (Int32.ofInt zv)), (4, .int (Int32.ofInt wv)), (7, .int (Int32.ofInt a)), (9, .int (Int32.ofInt b))]) rfl (by decide) (fun _ h => h) (z_inc X (x := b) (lv' := [(9, .int (Int32.ofInt (b + 1))), (8, .int (Int32.ofInt (ah + 1))), (0, .ref (A 179)), (6, .ref q1), (3, .int (Int32.ofInt zv)), (4, .int (Int32.ofInt wv)), (7, .int (Int32.ofInt a))]) rfl (by decide) (List.Mem.tail _ (List.Mem.tail _ (List.Mem.tail _ (List.Mem.tail _ (List.Mem.tail _ (List.Mem.tail _ (List.Mem.head _))))))) (fun _ h => h) (z_goto X (t := 136) rfl rfl (WS_pq [2, 3, 4, 5, 6, 1, 0] (lv' := [(0, .ref (A 179)), (6, .ref q1), (3, .int (Int32.ofInt zv)), (4, .int (Int32.ofInt wv)), (7, .int (Int32.ofInt a)), (8, .int (Int32.ofInt (ah + 1))), (9, .int (Int32.ofInt (b + 1)))]) rfl ?_))))))
            exact ih _ zv wv a (ah + 1) (b + 1) I F jjRLx ⟨hq.1, hq.2⟩ (by first | exact ⟨And.intro (hi.1.1) (hi.1.2), hi.2.1, And.intro (hi.2.2.1.1) (hi.2.2.1.2), And.intro (oq_54f49eb5 hi.2.2.2.1.1) (oq_8d48a029 hi.2.2.2.1.2), oq_4dae995e g2004 b2003.2⟩ | omega) (by first | exact qk_me hm (by decide) (oq_b575e8c1 g2004 b2003.2) | omega) kx
          ·
            refine z_aload X (x := q1) rfl (List.Mem.tail _ (List.Mem.head _)) (z_load X (x := b) rfl (List.Mem.tail _ (List.Mem.tail _ (List.Mem.tail _ (List.Mem.tail _ (List.Mem.tail _ (List.Mem.tail _ (List.Mem.head _))))))) (z_xald X hq.1 0 rfl rfl (by first | exact oq_12a1f9e1 hi.2.2.2.1.2 hi.2.2.2.1.1 | omega) (show b < 12 by first | exact oq_f36e82a8 g2004 b2003.2 | omega) (by decide) (fun y2010 hy2010 => ?_)))
            refine z_aload X (x := q1) rfl (List.Mem.tail _ (List.Mem.head _)) (z_load X (x := a) rfl (List.Mem.tail _ (List.Mem.tail _ (List.Mem.tail _ (List.Mem.tail _ (List.Mem.head _))))) (z_xald X hq.1 0 rfl rfl (by first | exact hi.2.2.1.1 | omega) (show a < 12 by first | exact oq_0ddfcfee hi.2.2.1.2 | omega) (by decide) (fun y2011 hy2011 => ?_)))
            have N2012 : ∀ e2013 : Int, (((y2010 ≠ y2011) ∧ e2013 = 0) ∨ ((y2010 = y2011) ∧ (a ≤ b) ∧ e2013 = 0) ∨ ((y2010 = y2011) ∧ (b < a) ∧ e2013 = 1)) → WS k 193 [(0, .ref (A 179)), (6, .ref q1), (3, .int (Int32.ofInt zv)), (4, .int (Int32.ofInt wv)), (7, .int (Int32.ofInt a)), (8, .int (Int32.ofInt ah)), (9, .int (Int32.ofInt b))] [.int (Int32.ofInt e2013), .int (Int32.ofInt ah)] (Wd A dT t) 1 12 := by
              intro e2013 he2013
              have re2013 : 0 ≤ e2013 ∧ e2013 ≤ 1 := by first | (clear he2013 g2006 p3; omega) | (clear g2006 p3; omega) | omega
              refine z_add X rfl (z_store X (lv' := [(8, .int (Int32.ofInt (ah + e2013))), (0, .ref (A 179)), (6, .ref q1), (3, .int (Int32.ofInt zv)), (4, .int (Int32.ofInt wv)), (7, .int (Int32.ofInt a)), (9, .int (Int32.ofInt b))]) rfl (by decide) (fun _ h => h) (z_inc X (x := b) (lv' := [(9, .int (Int32.ofInt (b + 1))), (8, .int (Int32.ofInt (ah + e2013))), (0, .ref (A 179)), (6, .ref q1), (3, .int (Int32.ofInt zv)), (4, .int (Int32.ofInt wv)), (7, .int (Int32.ofInt a))]) rfl (by decide) (List.Mem.tail _ (List.Mem.tail _ (List.Mem.tail _ (List.Mem.tail _ (List.Mem.tail _ (List.Mem.tail _ (List.Mem.head _))))))) (fun _ h => h) (z_goto X (t := 136) rfl rfl (WS_pq [2, 3, 4, 5, 6, 1, 0] (lv' := [(0, .ref (A 179)), (6, .ref q1), (3, .int (Int32.ofInt zv)), (4, .int (Int32.ofInt wv)), (7, .int (Int32.ofInt a)), (8, .int (Int32.ofInt (ah + e2013))), (9, .int (Int32.ofInt (b + 1)))]) rfl ?_))))
              exact ih _ zv wv a (ah + e2013) (b + 1) I F jjRLx ⟨hq.1, hq.2⟩ (by first | exact ⟨And.intro (hi.1.1) (hi.1.2), hi.2.1, And.intro (hi.2.2.1.1) (hi.2.2.1.2), And.intro (oq_dd29f52d hi.2.2.2.1.1 re2013.1) (oq_273e42a6 hi.2.2.2.1.2 re2013.2), oq_4dae995e g2004 b2003.2⟩ | omega) (by first | exact qk_me hm (by decide) (oq_b575e8c1 g2004 b2003.2) | omega) kx
            refine z_icmp_ne X (t := 192) rfl rfl hy2010 hy2011 (fun g2014 => ?_) (fun g2014 => ?_)
            ·
              exact z_const X rfl (N2012 _ (Or.inl ⟨g2014, rfl⟩))
            ·
              refine z_load X (x := b) rfl (List.Mem.tail _ (List.Mem.tail _ (List.Mem.tail _ (List.Mem.tail _ (List.Mem.tail _ (List.Mem.tail _ (List.Mem.head _))))))) (z_load X (x := a) rfl (List.Mem.tail _ (List.Mem.tail _ (List.Mem.tail _ (List.Mem.tail _ (List.Mem.head _))))) (z_icmp_ge X (t := 192) rfl rfl ⟨by first | exact oq_e001bc0d hi.2.2.2.1.2 hi.2.2.2.1.1 | omega, by first | exact oq_78843a64 hi.2.2.2.2 | omega⟩ ⟨by first | exact oq_fa4e5087 hi.2.2.1.1 | omega, by first | exact oq_36716223 hi.2.2.1.2 | omega⟩ (fun g2015 => ?_) (fun g2015 => ?_)))
              ·
                exact z_const X rfl (N2012 _ (Or.inr (Or.inl ⟨g2014, g2015, rfl⟩)))
              ·
                exact z_const X rfl (z_goto X (t := 193) rfl rfl (N2012 _ (Or.inr (Or.inr (⟨g2014, g2015, rfl⟩)))))
  have L121 : ∀ (q1 : Nat) (n : Nat) (t : PS) (zv wv a : Int), Bd t → FmX [73, 77, 75, 78, 79, 80, 81] [202, 204, 205, 206, 207, 208, 209, 210, 211, 212, 213, 214, 215, 216, 217, 218, 219, 220, 221, 222, 223, 224, 225, 226, 227, 203, 161, 230] s t → RLx t → (EXl (pX s) (dT 0) [(q1, 12)] t ∧ NW t) → (rng zv ∧ (wv = 0 ∨ wv = 1) ∧ 0 ≤ a ∧ a ≤ 12) → (12 - a : Int).toNat < n → (∀ (t' : PS) (a' : Int), Bd t' → FmX [73, 77, 75, 78, 79, 80, 81] [202, 204, 205, 206, 207, 208, 209, 210, 211, 212, 213, 214, 215, 216, 217, 218, 219, 220, 221, 222, 223, 224, 225, 226, 227, 203, 161, 230] s t' → RLx t' → (EXl (pX s) (dT 0) [(q1, 12)] t' ∧ NW t') → (rng zv ∧ (wv = 0 ∨ wv = 1) ∧ 0 ≤ a' ∧ a' ≤ 12) → WS k 238 [(0, .ref (A 179)), (6, .ref q1), (3, .int (Int32.ofInt zv)), (4, .int (Int32.ofInt wv)), (7, .int (Int32.ofInt a'))] [] (Wd A dT t') 1 12) → WS k 121 [(0, .ref (A 179)), (6, .ref q1), (3, .int (Int32.ofInt zv)), (4, .int (Int32.ofInt wv)), (7, .int (Int32.ofInt a))] [] (Wd A dT t) 1 12 := by
    intro q1 n
    induction n with
    | zero =>
      intro t zv wv a I F jjRLx hq hi hm kx
      exact absurd hm (Nat.not_lt_zero _)
    | succ n ih =>
      intro t zv wv a I F jjRLx hq hi hm kx
      have b3001 := bi_73 I
      have b3002 := bi_90 I
      refine z_load X (x := a) rfl (List.Mem.tail _ (List.Mem.tail _ (List.Mem.tail _ (List.Mem.tail _ (List.Mem.head _))))) (z_aload_n X (x := A 179) rfl (List.Mem.head _) (z_getI X 179 rfl (c518_ok rfl) rfl rfl ?_))
      have b3003 := bi_90 I
      refine z_icmp_ge X (t := 238) rfl rfl ⟨by first | exact oq_fa4e5087 hi.2.2.1 | omega, by first | exact oq_78843a64 hi.2.2.2 | omega⟩ (rng_to _) (fun g3004 => ?_) (fun g3004 => ?_)
      ·
        refine WS_pq [0, 1, 2, 3, 4] (lv' := [(0, .ref (A 179)), (6, .ref q1), (3, .int (Int32.ofInt zv)), (4, .int (Int32.ofInt wv)), (7, .int (Int32.ofInt a))]) rfl ?_
        exact kx _ a I F jjRLx ⟨hq.1, hq.2⟩ (by first | exact ⟨And.intro (hi.1.1) (hi.1.2), hi.2.1, hi.2.2.1, hi.2.2.2⟩ | omega)
      ·
        refine z_const X rfl (z_store X (lv' := [(8, .int (Int32.ofInt 0)), (0, .ref (A 179)), (6, .ref q1), (3, .int (Int32.ofInt zv)), (4, .int (Int32.ofInt wv)), (7, .int (Int32.ofInt a))]) rfl (by decide) (fun _ h => h) (z_const X rfl (z_store X (lv' := [(9, .int (Int32.ofInt 0)), (8, .int (Int32.ofInt 0)), (0, .ref (A 179)), (6, .ref q1), (3, .int (Int32.ofInt zv)), (4, .int (Int32.ofInt wv)), (7, .int (Int32.ofInt a))]) rfl (by decide) (fun _ h => h) (WS_pq [2, 3, 4, 5, 6, 1, 0] (lv' := [(0, .ref (A 179)), (6, .ref q1), (3, .int (Int32.ofInt zv)), (4, .int (Int32.ofInt wv)), (7, .int (Int32.ofInt a)), (8, .int (Int32.ofInt 0)), (9, .int (Int32.ofInt 0))]) rfl (L136 q1 ((12 - 0 : Int).toNat + 1) t zv wv a 0 0 I F jjRLx ⟨hq.1, hq.2⟩ (by first | exact ⟨And.intro (hi.1.1) (hi.1.2), hi.2.1, And.intro (hi.2.2.1) (oq_e4d7f3c5 g3004 b3003.2), And.intro (by decide) (by decide), by decide⟩ | omega) (Nat.lt_succ_self _) ?_)))))
        intro s3005 x3006 x3007 Is3005 Fs3005 JRLx_s3005 Qs3005 hs3005
        have b3008 := bi_73 Is3005
        have b3009 := bi_90 Is3005
        refine z_aload X (x := q1) rfl (List.Mem.tail _ (List.Mem.head _)) (z_load X (x := a) rfl (List.Mem.tail _ (List.Mem.tail _ (List.Mem.tail _ (List.Mem.tail _ (List.Mem.head _))))) (z_xald X Qs3005.1 0 rfl rfl (by first | exact hs3005.2.2.1.1 | omega) (show a < 12 by first | exact oq_0ddfcfee hs3005.2.2.1.2 | omega) (by decide) (fun y3010 hy3010 => ?_)))
        refine z_if_eq X (t := 232) rfl rfl hy3010 (fun g3011 => ?_) (fun g3011 => ?_)
        ·
          refine z_inc X (x := a) (lv' := [(7, .int (Int32.ofInt (a + 1))), (0, .ref (A 179)), (6, .ref q1), (3, .int (Int32.ofInt zv)), (4, .int (Int32.ofInt wv)), (8, .int (Int32.ofInt x3006)), (9, .int (Int32.ofInt x3007))]) rfl (by decide) (List.Mem.tail _ (List.Mem.tail _ (List.Mem.tail _ (List.Mem.tail _ (List.Mem.head _))))) (fun _ h => h) (z_goto X (t := 121) rfl rfl (WS_pq [1, 2, 3, 4, 0] (lv' := [(0, .ref (A 179)), (6, .ref q1), (3, .int (Int32.ofInt zv)), (4, .int (Int32.ofInt wv)), (7, .int (Int32.ofInt (a + 1)))]) rfl ?_))
          exact ih _ zv wv (a + 1) Is3005 Fs3005 JRLx_s3005 ⟨Qs3005.1, Qs3005.2⟩ (by first | exact ⟨And.intro (hs3005.1.1) (hs3005.1.2), hs3005.2.1, oq_54f49eb5 hs3005.2.2.1.1, oq_51d1204d hs3005.2.2.1.2⟩ | omega) (by first | exact qk_me hm (by decide) (oq_8b937940 hs3005.2.2.1.2) | omega) kx
        ·
          refine z_load X (x := x3006) rfl (List.Mem.tail _ (List.Mem.tail _ (List.Mem.tail _ (List.Mem.tail _ (List.Mem.tail _ (List.Mem.head _)))))) (z_load_n X (x := zv) rfl (List.Mem.tail _ (List.Mem.tail _ (List.Mem.head _))) (z_icmp_ne X (t := 232) rfl rfl ⟨by first | exact oq_fa4e5087 hs3005.2.2.2.1.1 | omega, by first | exact oq_39d2cc6e hs3005.2.2.2.1.2 hs3005.2.2.2.2 | omega⟩ ⟨by first | exact hs3005.1.1 | omega, by first | exact hs3005.1.2 | omega⟩ (fun g3012 => ?_) (fun g3012 => ?_)))
          ·
            refine z_inc X (x := a) (lv' := [(7, .int (Int32.ofInt (a + 1))), (0, .ref (A 179)), (6, .ref q1), (3, .int (Int32.ofInt zv)), (4, .int (Int32.ofInt wv)), (8, .int (Int32.ofInt x3006)), (9, .int (Int32.ofInt x3007))]) rfl (by decide) (List.Mem.tail _ (List.Mem.tail _ (List.Mem.tail _ (List.Mem.tail _ (List.Mem.head _))))) (fun _ h => h) (z_goto X (t := 121) rfl rfl (WS_pq [1, 2, 3, 4, 0] (lv' := [(0, .ref (A 179)), (6, .ref q1), (3, .int (Int32.ofInt zv)), (4, .int (Int32.ofInt wv)), (7, .int (Int32.ofInt (a + 1)))]) rfl ?_))
            exact ih _ zv wv (a + 1) Is3005 Fs3005 JRLx_s3005 ⟨Qs3005.1, Qs3005.2⟩ (by first | exact ⟨And.intro (hs3005.1.1) (hs3005.1.2), hs3005.2.1, oq_54f49eb5 hs3005.2.2.1.1, oq_51d1204d hs3005.2.2.1.2⟩ | omega) (by first | exact qk_me hm (by decide) (oq_8b937940 hs3005.2.2.1.2) | omega) kx
          ·
            refine z_load X (x := wv) rfl (List.Mem.tail _ (List.Mem.tail _ (List.Mem.tail _ (List.Mem.head _)))) (z_if_eq X (t := 229) rfl rfl ⟨by first | exact oq_bde653e9 hs3005.2.1 | omega, by first | exact oq_4ad2cb8b hs3005.2.1 | omega⟩ (fun g3013 => ?_) (fun g3013 => ?_))
            ·
              refine z_load X (x := a) rfl (List.Mem.tail _ (List.Mem.tail _ (List.Mem.tail _ (List.Mem.tail _ (List.Mem.head _))))) (ws_forget Qs3005.1 ?_)
              exact w_iret X.1 q hRt rfl (ax_d X (show cdA 290 231 = some (.ireturn, 1, 0, 0, 0) from rfl)) (by decide) (by decide) ⟨_, rfl, Is3005, fx_end Fs3005, JRLx_s3005, a, rfl, ⟨by first | (clear g3011 p3; omega) | (clear p3; omega) | omega, by first | (clear g3011 p3; omega) | (clear p3; omega) | omega⟩, trivial⟩
            ·
              refine z_aload X (x := q1) rfl (List.Mem.tail _ (List.Mem.head _)) (z_load X (x := a) rfl (List.Mem.tail _ (List.Mem.tail _ (List.Mem.tail _ (List.Mem.tail _ (List.Mem.head _))))) (z_xald X Qs3005.1 0 rfl rfl (by first | exact hs3005.2.2.1.1 | omega) (show a < 12 by first | exact oq_0ddfcfee hs3005.2.2.1.2 | omega) (by decide) (fun y3014 hy3014 => ?_)))
              refine z_goto X (t := 231) rfl rfl (ws_forget Qs3005.1 ?_)
              exact w_iret X.1 q hRt rfl (ax_d X (show cdA 290 231 = some (.ireturn, 1, 0, 0, 0) from rfl)) (by decide) (by decide) ⟨_, rfl, Is3005, fx_end Fs3005, JRLx_s3005, y3014, rfl, ⟨by first | (clear g3013 g3011 p3; omega) | (clear g3011 p3; omega) | omega, by first | (clear g3013 g3011 p3; omega) | (clear g3011 p3; omega) | omega⟩, trivial⟩
  refine z_aload_n X (x := A 179) rfl (List.Mem.head _) (z_const X rfl (s_putI X 179 rfl (c518_ok rfl) rfl rfl (by decide) rfl rfl rfl (wd_gen (fun s3 hs3 => ?_))))
  have Is3 : Bd s3 := eqB hs3 (bd_I I (show (0 : Int) ≤ 0 ∧ 0 ≤ 3 by first | exact ⟨by decide, by decide⟩ | omega) (by decide))
  have Fs3 := eqF hs3 (fm_I F (inl_ok (a := 73) rfl))
  have vs3 : iI s3 73 = 0 := eqI hs3 (iI_u (by decide))
  have ws3_90 : iI s3 90 = iI s 90 := eqI hs3 rfl
  have fs3 : Fm [73] [] s s3 := by rw [hs3]; exact fm_I (fm_rf _ _ _) (show 73 ∈ _ by decide)
  have JRLx_s3 : RLx s3 := RLx_fm fs3 (by decide) jRLx
  refine z_aload_n X (x := A 179) rfl (List.Mem.head _) (z_load_n X (x := x) rfl (List.Mem.tail _ (List.Mem.head _)) (z_const X rfl (z_bipush X rfl (zcS_i0 X E (As := [.int (Int32.ofInt x), .int (Int32.ofInt 0), .int (Int32.ofInt 7)]) (st := [.ref (A 179)]) rfl rfl (k_in G Is3 (by first | exact ⟨p0.1, p0.2⟩ | omega) (by first | exact ⟨by decide, by decide⟩ | omega) (by first | exact ⟨by decide, by decide⟩ | omega)) rfl (Nat.le_of_ble_eq_true rfl) (fun s4 e5 Is4 Fs4 hrs4 hps4 => ?_)))))
  have Gs4 := fm_tq Fs3 Fs4 rfl rfl
  have JRLx_s4 : RLx s4 := RLx_fm Fs4 (by decide) JRLx_s3
  have ws4_73 : iI s4 73 = iI s3 73 := fm_iq Fs4 rfl
  have ws4_90 : iI s4 90 = iI s3 90 := fm_iq Fs4 rfl
  refine z_if_eq X (t := 26) rfl rfl hrs4 (fun g6 => ?_) (fun g6 => ?_)
  ·
    refine z_const X rfl (z_goto X (t := 31) rfl rfl (z_const X rfl (zcV_i0 X E 179 (As := [.int (Int32.ofInt 1), .int (Int32.ofInt 1)]) (st := []) rfl rfl rfl rfl (k_bad G Is4 (by first | exact Or.inr (by decide) | omega) (by first | exact ⟨by decide, by decide⟩ | omega)) rfl (Nat.le_of_ble_eq_true rfl) (fun s7 e8 Is7 Fs7 hrs7 hps7 => ?_))))
    have Gs7 := fm_tq Gs4 Fs7 rfl rfl
    have JRLx_s7 : RLx s7 := RLx_fm Fs7 (by decide) JRLx_s4
    have b9 := bi_73 Is7
    have ws7_90 : iI s7 90 = iI s4 90 := fm_iq Fs7 rfl
    refine z_if_eq X (t := 40) rfl rfl hrs7 (fun g10 => ?_) (fun g10 => ?_)
    ·
      refine z_aload_n X (x := A 179) rfl (List.Mem.head _) (z_load_n X (x := x) rfl (List.Mem.tail _ (List.Mem.head _)) (zcV_v0 X E 179 (As := [.int (Int32.ofInt x)]) (st := []) rfl rfl rfl rfl (k_setOf G Is7 (by first | exact ⟨p0.1, p0.2⟩ | omega)) rfl (Nat.le_of_ble_eq_true rfl) (fun s11 Is11 Fs11 hps11 => ?_)))
      have Gs11 := fm_tq Gs7 Fs11 rfl rfl
      have JRLx_s11 : RLx s11 := RLx_fm Fs11 (by decide) JRLx_s7
      have ws11_73 : iI s11 73 = iI s7 73 := fm_iq Fs11 rfl
      have ws11_90 : iI s11 90 = iI s7 90 := fm_iq Fs11 rfl
      refine z_aload_n X (x := A 179) rfl (List.Mem.head _) (z_load_n X (x := y) rfl (List.Mem.tail _ (List.Mem.tail _ (List.Mem.head _))) (zcV_v2 X E 179 (As := [.int (Int32.ofInt y)]) (st := []) rfl rfl rfl rfl (k_asTold G Is11 JRLx_s11 (by first | exact ⟨oq_65cab3da g10 hps7.2.1, oq_5b968bc5 g10 hps7.2.1⟩ | omega)) rfl (Nat.le_of_ble_eq_true rfl) (fun s13 Is13 Fs13 JRLx_s13 JNQ_s13 hps13 => ?_)))
      have Gs13 := fm_tq Gs11 Fs13 rfl rfl
      have JRLx_s13 : RLx s13 := RLx_fm Fs13 (by decide) JRLx_s11
      have ws13_73 : iI s13 73 = iI s11 73 := fm_iq Fs13 rfl
      have ws13_90 : iI s13 90 = iI s11 90 := fm_iq Fs13 rfl
      refine z_aload_n X (x := A 179) rfl (List.Mem.head _) ?_
      have JNW_s13 : NW s13 := NW_of JNQ_s13 JRLx_s13
      refine zcV_i1 X E 179 (As := []) (st := []) rfl rfl rfl rfl (k_load G Is13 JNW_s13 ) rfl (Nat.le_of_ble_eq_true rfl) (fun s15 e16 Is15 Fs15 JNW_s15 hrs15 hps15 => ?_)
      have Gs15 := fm_tq Gs13 Fs15 rfl rfl
      have JRLx_s15 : RLx s15 := RLx_fm Fs15 (by decide) JRLx_s13
      have JNW_s15 : NW s15 := NW_fm Fs15 (by decide) JNW_s13
      have ws15_73 : iI s15 73 = iI s13 73 := fm_iq Fs15 rfl
      have ws15_90 : iI s15 90 = iI s13 90 := fm_iq Fs15 rfl
      refine z_store X (lv' := [(5, .int (Int32.ofInt e16)), (0, .ref (A 179)), (1, .int (Int32.ofInt x)), (2, .int (Int32.ofInt y)), (3, .int (Int32.ofInt z)), (4, .int (Int32.ofInt w))]) rfl (by decide) (fun _ h => h) (z_bipush X rfl (z_newX X (n := 12) (by decide) rfl (by rw [E.2.2.2]; decide) (by rw [E.2.2.2]; decide) (fun q1 => ?_)))
      have eXs17 : EXl (pX s) (dT 0) [(q1, 12)] (sx s15 (pX s15 ++ [(q1, .inl (dT 0, 12, .inl (fun _ => 0)))])) := ⟨fun _ _ => 0, by show pX s15 ++ [_] = _; rw [Gs15.2.2.1]; rfl⟩
      have Is17 : Bd (sx s15 (pX s15 ++ [(q1, .inl (dT 0, 12, .inl (fun _ => 0)))])) := Is15
      have Fs17 : FmX [73, 77, 75, 78, 79, 80, 81] [202, 204, 205, 206, 207, 208, 209, 210, 211, 212, 213, 214, 215, 216, 217, 218, 219, 220, 221, 222, 223, 224, 225, 226, 227, 203, 161, 230] s (sx s15 (pX s15 ++ [(q1, .inl (dT 0, 12, .inl (fun _ => 0)))])) := ⟨Gs15.1, Gs15.2.1, Gs15.2.2.2⟩
      have JRLx_s17 : RLx (sx s15 (pX s15 ++ [(q1, .inl (dT 0, 12, .inl (fun _ => 0)))])) := JRLx_s15
      have JNW_s17 : NW (sx s15 (pX s15 ++ [(q1, .inl (dT 0, 12, .inl (fun _ => 0)))])) := JNW_s15
      have ws17_73 : iI (sx s15 (pX s15 ++ [(q1, .inl (dT 0, 12, .inl (fun _ => 0)))])) 73 = iI s15 73 := rfl
      have ws17_90 : iI (sx s15 (pX s15 ++ [(q1, .inl (dT 0, 12, .inl (fun _ => 0)))])) 90 = iI s15 90 := rfl
      generalize (sx s15 (pX s15 ++ [(q1, .inl (dT 0, 12, .inl (fun _ => 0)))])) = s17 at *
      show WS k 60 [(5, .int (Int32.ofInt e16)), (0, .ref (A 179)), (1, .int (Int32.ofInt x)), (2, .int (Int32.ofInt y)), (3, .int (Int32.ofInt z)), (4, .int (Int32.ofInt w))] [.ref q1] (Wd A dT s17) 1 12
      refine z_astore X (lv' := [(6, .ref q1), (5, .int (Int32.ofInt e16)), (0, .ref (A 179)), (1, .int (Int32.ofInt x)), (2, .int (Int32.ofInt y)), (3, .int (Int32.ofInt z)), (4, .int (Int32.ofInt w))]) rfl (by decide) (fun _ h => h) (z_const X rfl (z_store X (lv' := [(7, .int (Int32.ofInt 0)), (6, .ref q1), (5, .int (Int32.ofInt e16)), (0, .ref (A 179)), (1, .int (Int32.ofInt x)), (2, .int (Int32.ofInt y)), (3, .int (Int32.ofInt z)), (4, .int (Int32.ofInt w))]) rfl (by decide) (fun _ h => h) (WS_pq [3, 1, 6, 7, 2, 0] (lv' := [(0, .ref (A 179)), (6, .ref q1), (3, .int (Int32.ofInt z)), (4, .int (Int32.ofInt w)), (5, .int (Int32.ofInt e16)), (7, .int (Int32.ofInt 0))]) rfl (L65 q1 ((12 - 0 : Int).toNat + 1) s17 z w e16 0 Is17 Fs17 JRLx_s17 ⟨eXs17, JNW_s17⟩ (by first | exact ⟨And.intro (p2.1) (p2.2), p3, oq_b7ca6a19 g10 hps7.2.1, by decide, by decide⟩ | omega) (Nat.lt_succ_self _) ?_))))
      intro s18 x19 Is18 Fs18 JRLx_s18 Qs18 hs18
      have b20 := bi_73 Is18
      have b21 := bi_90 Is18
      refine z_const X rfl (z_store X (lv' := [(7, .int (Int32.ofInt 0)), (0, .ref (A 179)), (6, .ref q1), (3, .int (Int32.ofInt z)), (4, .int (Int32.ofInt w)), (5, .int (Int32.ofInt e16))]) rfl (by decide) (fun _ h => h) (WS_pq [1, 2, 3, 4, 0] (lv' := [(0, .ref (A 179)), (6, .ref q1), (3, .int (Int32.ofInt z)), (4, .int (Int32.ofInt w)), (7, .int (Int32.ofInt 0))]) rfl (L121 q1 ((12 - 0 : Int).toNat + 1) s18 z w 0 Is18 Fs18 JRLx_s18 ⟨Qs18.1, Qs18.2⟩ (by first | exact ⟨And.intro (hs18.1.1) (hs18.1.2), hs18.2.1, by decide, by decide⟩ | omega) (Nat.lt_succ_self _) ?_)))
      intro s22 x23 Is22 Fs22 JRLx_s22 Qs22 hs22
      have b24 := bi_73 Is22
      have b25 := bi_90 Is22
      refine z_const X rfl (ws_forget Qs22.1 ?_)
      exact w_iret X.1 q hRt rfl (ax_d X (show cdA 290 239 = some (.ireturn, 1, 0, 0, 0) from rfl)) (by decide) (by decide) ⟨_, rfl, Is22, fx_end Fs22, JRLx_s22, (-1), rfl, ⟨by first | (clear hps7 hps4 p3; omega) | (clear hps4 p3; omega) | omega, by first | (clear hps7 hps4 p3; omega) | (clear hps4 p3; omega) | omega⟩, trivial⟩
    ·
      refine z_const X rfl ?_
      exact w_iret X.1 q hRt rfl (ax_d X (show cdA 290 39 = some (.ireturn, 1, 0, 0, 0) from rfl)) (Nat.zero_le _) (Nat.zero_le _) ⟨_, rfl, Is7, Gs7, JRLx_s7, 0, rfl, ⟨by first | (clear g10 hps7 hps4 p3; omega) | (clear hps7 hps4 p3; omega) | omega, by first | (clear g10 hps7 hps4 p3; omega) | (clear hps7 hps4 p3; omega) | omega⟩, trivial⟩
  ·
    refine z_load_n X (x := y) rfl (List.Mem.tail _ (List.Mem.tail _ (List.Mem.head _))) (z_const X rfl (z_bipush X rfl (zcS_i0 X E (As := [.int (Int32.ofInt y), .int (Int32.ofInt 0), .int (Int32.ofInt 23)]) (st := [.ref (A 179)]) rfl rfl (k_in G Is4 (by first | exact ⟨p1.1, p1.2⟩ | omega) (by first | exact ⟨by decide, by decide⟩ | omega) (by first | exact ⟨by decide, by decide⟩ | omega)) rfl (Nat.le_of_ble_eq_true rfl) (fun s26 e27 Is26 Fs26 hrs26 hps26 => ?_))))
    have Gs26 := fm_tq Gs4 Fs26 rfl rfl
    have JRLx_s26 : RLx s26 := RLx_fm Fs26 (by decide) JRLx_s4
    have ws26_73 : iI s26 73 = iI s4 73 := fm_iq Fs26 rfl
    have ws26_90 : iI s26 90 = iI s4 90 := fm_iq Fs26 rfl
    have N28 : ∀ e29 : Int, (((e27 ≠ 0) ∧ e29 = 0) ∨ ((e27 = 0) ∧ e29 = 1)) → WS k 31 [(0, .ref (A 179)), (1, .int (Int32.ofInt x)), (2, .int (Int32.ofInt y)), (3, .int (Int32.ofInt z)), (4, .int (Int32.ofInt w))] [.int (Int32.ofInt e29), .ref (A 179)] (Wd A dT s26) 0 0 := by
      intro e29 he29
      have re29 : 0 ≤ e29 ∧ e29 ≤ 1 := by first | (clear he29 hps26 g6 hps4 p3; omega) | (clear hps26 g6 hps4 p3; omega) | omega
      refine z_const X rfl (zcV_i0 X E 179 (As := [.int (Int32.ofInt e29), .int (Int32.ofInt 1)]) (st := []) rfl rfl rfl rfl (k_bad G Is26 (by first | exact oq_31e518ae re29.2 re29.1 | omega) (by first | exact ⟨by decide, by decide⟩ | omega)) rfl (Nat.le_of_ble_eq_true rfl) (fun s30 e31 Is30 Fs30 hrs30 hps30 => ?_))
      have Gs30 := fm_tq Gs26 Fs30 rfl rfl
      have JRLx_s30 : RLx s30 := RLx_fm Fs30 (by decide) JRLx_s26
      have b32 := bi_73 Is30
      have ws30_90 : iI s30 90 = iI s26 90 := fm_iq Fs30 rfl
      refine z_if_eq X (t := 40) rfl rfl hrs30 (fun g33 => ?_) (fun g33 => ?_)
      ·
        refine z_aload_n X (x := A 179) rfl (List.Mem.head _) (z_load_n X (x := x) rfl (List.Mem.tail _ (List.Mem.head _)) (zcV_v0 X E 179 (As := [.int (Int32.ofInt x)]) (st := []) rfl rfl rfl rfl (k_setOf G Is30 (by first | exact ⟨p0.1, p0.2⟩ | omega)) rfl (Nat.le_of_ble_eq_true rfl) (fun s34 Is34 Fs34 hps34 => ?_)))
        have Gs34 := fm_tq Gs30 Fs34 rfl rfl
        have JRLx_s34 : RLx s34 := RLx_fm Fs34 (by decide) JRLx_s30
        have ws34_73 : iI s34 73 = iI s30 73 := fm_iq Fs34 rfl
        have ws34_90 : iI s34 90 = iI s30 90 := fm_iq Fs34 rfl
        refine z_aload_n X (x := A 179) rfl (List.Mem.head _) (z_load_n X (x := y) rfl (List.Mem.tail _ (List.Mem.tail _ (List.Mem.head _))) (zcV_v2 X E 179 (As := [.int (Int32.ofInt y)]) (st := []) rfl rfl rfl rfl (k_asTold G Is34 JRLx_s34 (by first | exact ⟨oq_4c4e29f5 g33 hps30.2.1 re29.2 he29 hps26, oq_3a13f1ce g33 hps30.2.1 re29.2 he29 hps26⟩ | omega)) rfl (Nat.le_of_ble_eq_true rfl) (fun s36 Is36 Fs36 JRLx_s36 JNQ_s36 hps36 => ?_)))
        have Gs36 := fm_tq Gs34 Fs36 rfl rfl
        have JRLx_s36 : RLx s36 := RLx_fm Fs36 (by decide) JRLx_s34
        have ws36_73 : iI s36 73 = iI s34 73 := fm_iq Fs36 rfl
        have ws36_90 : iI s36 90 = iI s34 90 := fm_iq Fs36 rfl
        refine z_aload_n X (x := A 179) rfl (List.Mem.head _) ?_
        have JNW_s36 : NW s36 := NW_of JNQ_s36 JRLx_s36
        refine zcV_i1 X E 179 (As := []) (st := []) rfl rfl rfl rfl (k_load G Is36 JNW_s36 ) rfl (Nat.le_of_ble_eq_true rfl) (fun s38 e39 Is38 Fs38 JNW_s38 hrs38 hps38 => ?_)
        have Gs38 := fm_tq Gs36 Fs38 rfl rfl
        have JRLx_s38 : RLx s38 := RLx_fm Fs38 (by decide) JRLx_s36
        have JNW_s38 : NW s38 := NW_fm Fs38 (by decide) JNW_s36
        have ws38_73 : iI s38 73 = iI s36 73 := fm_iq Fs38 rfl
        have ws38_90 : iI s38 90 = iI s36 90 := fm_iq Fs38 rfl
        refine z_store X (lv' := [(5, .int (Int32.ofInt e39)), (0, .ref (A 179)), (1, .int (Int32.ofInt x)), (2, .int (Int32.ofInt y)), (3, .int (Int32.ofInt z)), (4, .int (Int32.ofInt w))]) rfl (by decide) (fun _ h => h) (z_bipush X rfl (z_newX X (n := 12) (by decide) rfl (by rw [E.2.2.2]; decide) (by rw [E.2.2.2]; decide) (fun q1 => ?_)))
        have eXs40 : EXl (pX s) (dT 0) [(q1, 12)] (sx s38 (pX s38 ++ [(q1, .inl (dT 0, 12, .inl (fun _ => 0)))])) := ⟨fun _ _ => 0, by show pX s38 ++ [_] = _; rw [Gs38.2.2.1]; rfl⟩
        have Is40 : Bd (sx s38 (pX s38 ++ [(q1, .inl (dT 0, 12, .inl (fun _ => 0)))])) := Is38
        have Fs40 : FmX [73, 77, 75, 78, 79, 80, 81] [202, 204, 205, 206, 207, 208, 209, 210, 211, 212, 213, 214, 215, 216, 217, 218, 219, 220, 221, 222, 223, 224, 225, 226, 227, 203, 161, 230] s (sx s38 (pX s38 ++ [(q1, .inl (dT 0, 12, .inl (fun _ => 0)))])) := ⟨Gs38.1, Gs38.2.1, Gs38.2.2.2⟩
        have JRLx_s40 : RLx (sx s38 (pX s38 ++ [(q1, .inl (dT 0, 12, .inl (fun _ => 0)))])) := JRLx_s38
        have JNW_s40 : NW (sx s38 (pX s38 ++ [(q1, .inl (dT 0, 12, .inl (fun _ => 0)))])) := JNW_s38
        have ws40_73 : iI (sx s38 (pX s38 ++ [(q1, .inl (dT 0, 12, .inl (fun _ => 0)))])) 73 = iI s38 73 := rfl
        have ws40_90 : iI (sx s38 (pX s38 ++ [(q1, .inl (dT 0, 12, .inl (fun _ => 0)))])) 90 = iI s38 90 := rfl
        generalize (sx s38 (pX s38 ++ [(q1, .inl (dT 0, 12, .inl (fun _ => 0)))])) = s40 at *
        show WS k 60 [(5, .int (Int32.ofInt e39)), (0, .ref (A 179)), (1, .int (Int32.ofInt x)), (2, .int (Int32.ofInt y)), (3, .int (Int32.ofInt z)), (4, .int (Int32.ofInt w))] [.ref q1] (Wd A dT s40) 1 12
        refine z_astore X (lv' := [(6, .ref q1), (5, .int (Int32.ofInt e39)), (0, .ref (A 179)), (1, .int (Int32.ofInt x)), (2, .int (Int32.ofInt y)), (3, .int (Int32.ofInt z)), (4, .int (Int32.ofInt w))]) rfl (by decide) (fun _ h => h) (z_const X rfl (z_store X (lv' := [(7, .int (Int32.ofInt 0)), (6, .ref q1), (5, .int (Int32.ofInt e39)), (0, .ref (A 179)), (1, .int (Int32.ofInt x)), (2, .int (Int32.ofInt y)), (3, .int (Int32.ofInt z)), (4, .int (Int32.ofInt w))]) rfl (by decide) (fun _ h => h) (WS_pq [3, 1, 6, 7, 2, 0] (lv' := [(0, .ref (A 179)), (6, .ref q1), (3, .int (Int32.ofInt z)), (4, .int (Int32.ofInt w)), (5, .int (Int32.ofInt e39)), (7, .int (Int32.ofInt 0))]) rfl (L65 q1 ((12 - 0 : Int).toNat + 1) s40 z w e39 0 Is40 Fs40 JRLx_s40 ⟨eXs40, JNW_s40⟩ (by first | exact ⟨And.intro (p2.1) (p2.2), p3, by first | (clear hps30 he29 hps26 g6 hps4 p3; omega) | (clear he29 hps26 g6 hps4 p3; omega) | omega, by decide, by decide⟩ | omega) (Nat.lt_succ_self _) ?_))))
        intro s41 x42 Is41 Fs41 JRLx_s41 Qs41 hs41
        have b43 := bi_73 Is41
        have b44 := bi_90 Is41
        refine z_const X rfl (z_store X (lv' := [(7, .int (Int32.ofInt 0)), (0, .ref (A 179)), (6, .ref q1), (3, .int (Int32.ofInt z)), (4, .int (Int32.ofInt w)), (5, .int (Int32.ofInt e39))]) rfl (by decide) (fun _ h => h) (WS_pq [1, 2, 3, 4, 0] (lv' := [(0, .ref (A 179)), (6, .ref q1), (3, .int (Int32.ofInt z)), (4, .int (Int32.ofInt w)), (7, .int (Int32.ofInt 0))]) rfl (L121 q1 ((12 - 0 : Int).toNat + 1) s41 z w 0 Is41 Fs41 JRLx_s41 ⟨Qs41.1, Qs41.2⟩ (by first | exact ⟨And.intro (hs41.1.1) (hs41.1.2), hs41.2.1, by decide, by decide⟩ | omega) (Nat.lt_succ_self _) ?_)))
        intro s45 x46 Is45 Fs45 JRLx_s45 Qs45 hs45
        have b47 := bi_73 Is45
        have b48 := bi_90 Is45
        refine z_const X rfl (ws_forget Qs45.1 ?_)
        exact w_iret X.1 q hRt rfl (ax_d X (show cdA 290 239 = some (.ireturn, 1, 0, 0, 0) from rfl)) (by decide) (by decide) ⟨_, rfl, Is45, fx_end Fs45, JRLx_s45, (-1), rfl, ⟨by first | (clear hps30 he29 hps26 g6 hps4 p3; omega) | (clear he29 hps26 g6 hps4 p3; omega) | omega, by first | (clear hps30 he29 hps26 g6 hps4 p3; omega) | (clear he29 hps26 g6 hps4 p3; omega) | omega⟩, trivial⟩
      ·
        refine z_const X rfl ?_
        exact w_iret X.1 q hRt rfl (ax_d X (show cdA 290 39 = some (.ireturn, 1, 0, 0, 0) from rfl)) (Nat.zero_le _) (Nat.zero_le _) ⟨_, rfl, Is30, Gs30, JRLx_s30, 0, rfl, ⟨by first | (clear g33 hps30 he29 hps26 g6 hps4 p3; omega) | (clear hps30 he29 hps26 g6 hps4 p3; omega) | omega, by first | (clear g33 hps30 he29 hps26 g6 hps4 p3; omega) | (clear hps30 he29 hps26 g6 hps4 p3; omega) | omega⟩, trivial⟩
    refine z_if_ne X (t := 30) rfl rfl hrs26 (fun g49 => ?_) (fun g49 => ?_)
    ·
      exact z_const X rfl (N28 _ (Or.inl ⟨g49, rfl⟩))
    ·
      exact z_const X rfl (z_goto X (t := 31) rfl rfl (N28 _ (Or.inr (⟨g49, rfl⟩))))
end M65
end
