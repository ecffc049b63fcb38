theorem oq_c9c52c8f {a0 : Int} (h0 : a0 ≤ 203) : a0 ≤ 380 := by omega
theorem oq_340fc885 {a0 a1 a2 a3 : Int} (h0 : (a0 ≤ (a1 + 1) ∨ a0 ≤ a2)) (h1 : a1 ≤ 203) (h2 : a2 = a3) (h3 : a3 ≤ 100) : a0 ≤ 390 := by omega
theorem oq_0cb89ef4 {a0 a1 a2 a3 a4 a5 : Int} (h0 : (a0 = a1 ∨ a0 ≤ a2)) (h1 : a2 = a3) (h2 : (a1 ≤ (a4 + 1) ∨ a1 ≤ a3)) (h3 : a4 < a3) (h4 : a3 = a5) (h5 : a5 ≤ 100) : a0 ≤ 203 := by omega
theorem oq_8b437e93 {a0 a1 a2 a3 a4 a5 a6 : Int} (h0 : a0 = a1) (h1 : (a2 = a3 ∨ a2 ≤ a1)) (h2 : a1 = a4) (h3 : (a3 ≤ (a5 + 1) ∨ a3 ≤ a4)) (h4 : a5 < a4) : (a6 = 0 → a2 ≤ (a0 + 1)) := by omega
theorem oq_fed65c02 {a0 a1 : Int} (h0 : a0 = a1) (h1 : 1 ≤ a1) : 1 ≤ a0 := by omega
theorem oq_0f1f3919 {a0 a1 a2 a3 a4 a5 : Int} (h0 : a0 = a1) (h1 : a2 ≤ a3) (h2 : 0 ≤ a1) (h3 : a4 ≤ a2) (h4 : (a1 ≠ 0 ∨ a4 < a2)) (h5 : a5 = 0) : ((400 - a3) + (9 - a0)) < ((400 - a4) + (9 - a5)) := by omega
theorem oq_210fcd76 {a0 a1 : Int} (h0 : a0 = a1) (h1 : a1 ≤ 11) : a0 < 12 := by omega
theorem oq_cba5df33 {a0 a1 : Int} (h0 : a0 = a1) (h1 : a1 ≤ 11) : (a0 : Int).toNat < 12 := by omega
theorem oq_f5ee3737 {a0 a1 a2 a3 : Int} (h0 : a0 = a1) (h1 : a2 = a3) (h2 : a3 = a1) : a2 = a0 := by omega
theorem oq_e2284db0 {a0 a1 a2 : Int} (h0 : a0 = a1) (h1 : a1 = a2) (h2 : a2 ≤ 11) : a0 < 12 := by omega
theorem oq_29bc6d1f {a0 a1 a2 : Int} (h0 : a0 = a1) (h1 : a1 = a2) (h2 : a2 ≤ 11) : (a0 : Int).toNat < 12 := by omega
theorem oq_123e5d3a {a0 a1 a2 a3 a4 : Int} (h0 : a0 = a1) (h1 : a2 = a3) (h2 : a1 = a4) (h3 : a3 = a4) : a2 = a0 := by omega
theorem oq_24bf7586 {a0 a1 : Int} (h0 : ((100 ≤ a0 ∧ a1 = 100) ∨ (a0 < 100 ∧ ((0 ≤ a0 ∧ a0 ≤ 200) ∧ a1 = a0)))) (h1 : 0 ≤ a0) : (-2147483648) ≤ a1 := by omega
theorem oq_1539ade6 {a0 a1 : Int} (h0 : ((100 ≤ a0 ∧ a1 = 100) ∨ (a0 < 100 ∧ ((0 ≤ a0 ∧ a0 ≤ 200) ∧ a1 = a0)))) : a1 ≤ 2147483647 := by omega
theorem oq_d963a19e {a0 a1 a2 a3 a4 a5 : Int} (h0 : a0 = 0) (h1 : (a1 = 1 → a0 = 1)) (h2 : a1 ≤ 1) (h3 : ((a2 ≠ 0 ∧ a1 = 0) ∨ (a2 = 0 ∧ a1 = 1))) (h4 : ((a2 = 1 ∧ (0 ≤ a3 ∧ a3 ≤ a4)) ∨ (a2 = 0 ∧ (a3 < 0 ∨ a4 < a3)))) (h5 : ((100 ≤ a5 ∧ a4 = 100) ∨ (a5 < 100 ∧ ((0 ≤ a5 ∧ a5 ≤ 200) ∧ a4 = a5)))) : a3 ≤ 200 := by omega
theorem oq_c2d9d76f {a0 a1 : Int} (h0 : a0 = a1) (h1 : a1 = 0) : a0 ≤ 390 := by omega
theorem oq_b8e2f167 {a0 a1 a2 a3 a4 a5 : Int} (h0 : a0 = a1) (h1 : (a1 = a2 ∨ a1 ≤ a3)) (h2 : a3 = a4) (h3 : a2 = a5) (h4 : a4 ≤ 200) (h5 : a5 = 0) : a0 ≤ 390 := by omega
theorem oq_9a766fb5 {a0 a1 a2 a3 a4 a5 a6 : Int} (h0 : a0 = 0) (h1 : (a1 = 1 → a0 = 1)) (h2 : a1 ≤ 1) (h3 : ((a2 ≠ 0 ∧ a1 = 0) ∨ (a2 = 0 ∧ a1 = 1))) (h4 : ((a2 = 1 ∧ (0 ≤ a3 ∧ a3 ≤ a4)) ∨ (a2 = 0 ∧ (a3 < 0 ∨ a4 < a3)))) (h5 : ((100 ≤ a5 ∧ a4 = 100) ∨ (a5 < 100 ∧ ((0 ≤ a5 ∧ a5 ≤ 200) ∧ a4 = a5)))) (h6 : a5 = a6) : (0 ≤ a3 ∧ (a3 ≤ a6 ∧ a3 ≤ 100)) := by omega
theorem oq_fe2501c1 {a0 a1 a2 a3 a4 a5 a6 : Int} (h0 : a0 = a1) (h1 : a1 = a2) (h2 : a2 = a3) (h3 : a3 = a4) (h4 : a4 = a5) (h5 : a5 = a6) (h6 : a6 = 0) : a0 = 0 := by omega
theorem oq_268e5a20 {a0 a1 a2 a3 a4 a5 a6 a7 a8 : Int} (h0 : (a0 = a1 ∨ a0 ≤ a2)) (h1 : a2 = a3) (h2 : a1 = a4) (h3 : a3 = a5) (h4 : (a4 = a6 ∨ a4 ≤ a5)) (h5 : a5 = a7) (h6 : a6 = a8) (h7 : a7 ≤ 200) (h8 : a8 = 0) : a0 ≤ 203 := by omega
theorem oq_4f3d8471 {a0 a1 a2 a3 a4 a5 a6 a7 a8 a9 a10 : Int} (h0 : a0 = a1) (h1 : (a2 = a3 ∨ a2 ≤ a1)) (h2 : a1 = a4) (h3 : a3 = a5) (h4 : a4 = a6) (h5 : (a5 = a7 ∨ a5 ≤ a6)) (h6 : a6 = a8) (h7 : a7 = a9) (h8 : 0 ≤ a8) (h9 : a9 = 0) : (a10 = 0 → a2 ≤ (a0 + 1)) := by omega
theorem oq_3a510cc0 {a0 a1 a2 a3 : Int} (h0 : a0 = a1) (h1 : a1 = a2) (h2 : a2 = a3) (h3 : a3 = 1) : 1 ≤ a0 := by omega
theorem oq_86039f3f {a0 a1 a2 a3 a4 a5 a6 a7 a8 a9 a10 : Int} (h0 : a0 = a1) (h1 : a1 = a2) (h2 : a2 = a3) (h3 : a3 = a4) (h4 : a4 = a5) (h5 : a5 = a6) (h6 : a6 = a7) (h7 : a7 = a8) (h8 : a8 = a9) (h9 : a9 = a10) : a0 = a10 := by omega
theorem oq_70073d0e {a0 a1 a2 a3 a4 a5 : Int} (h0 : a0 ≠ 12) (h1 : a0 ≤ 12) (h2 : a0 = a1) (h3 : a1 = a2) (h4 : a2 = a3) (h5 : a3 = a4) (h6 : a4 = a5) : a5 ≤ 11 := by omega
theorem oq_f6b042d5 {a0 a1 a2 : Int} (h0 : a0 = a1) (h1 : a2 = a1) : a2 = a0 := by omega
theorem oq_6a44be7e {a0 a1 : Int} (h0 : a0 = a1) (h1 : a1 ≤ 11) : (a0 + 1) ≤ 12 := by omega
theorem oq_76a8a5b7 {a0 : Int} (h0 : a0 ≤ 12) : (a0 + 1) ≤ 2147483647 := by omega
theorem oq_6bfd7395 {a0 a1 a2 a3 a4 a5 a6 a7 a8 : Int} (h0 : a0 = a1) (h1 : a1 = 0) (h2 : a2 = 0) (h3 : (a3 = 1 → a2 = 1)) (h4 : a3 ≤ 1) (h5 : ((a4 ≠ 0 ∧ a3 = 0) ∨ (a4 = 0 ∧ a3 = 1))) (h6 : ((a4 = 1 ∧ (0 ≤ a5 ∧ a5 ≤ a6)) ∨ (a4 = 0 ∧ (a5 < 0 ∨ a6 < a5)))) (h7 : ((100 ≤ a7 ∧ a6 = 100) ∨ (a7 < 100 ∧ ((0 ≤ a7 ∧ a7 ≤ 200) ∧ a6 = a7)))) (h8 : a7 = a8) : ((0 ≤ a5 ∧ (a5 ≤ a8 ∧ (a5 ≤ 100 ∧ a0 = 0))) ∨ ((a5 < 0 ∨ (a8 < a5 ∨ 100 < a5)) ∧ a0 = a8)) := by omega
theorem oq_122ebdda {a0 a1 a2 a3 a4 a5 a6 a7 a8 a9 a10 a11 : Int} (h0 : a0 ≠ 0) (h1 : a1 = a2) (h2 : 0 ≤ a3) (h3 : (a4 = 0 → a3 = a5)) (h4 : ((a0 = 0 ∧ a3 = 0) ∨ (a0 = 1 ∧ a3 ≠ 0))) (h5 : 0 ≤ a4) (h6 : ((a6 ≠ 0 ∧ a4 = 0) ∨ (a6 = 0 ∧ a4 = 1))) (h7 : a2 = a7) (h8 : a5 = a8) (h9 : ((a6 = 1 ∧ (0 ≤ a9 ∧ a9 ≤ a10)) ∨ (a6 = 0 ∧ (a9 < 0 ∨ a10 < a9)))) (h10 : ((100 ≤ a7 ∧ a10 = 100) ∨ (a7 < 100 ∧ ((0 ≤ a7 ∧ a7 ≤ 200) ∧ a10 = a7)))) (h11 : a7 = a11) (h12 : a8 = 0) : ((0 ≤ a9 ∧ (a9 ≤ a11 ∧ (a9 ≤ 100 ∧ a1 = 0))) ∨ ((a9 < 0 ∨ (a11 < a9 ∨ 100 < a9)) ∧ a1 = a11)) := by omega
/-! The model: stream -/
def TDF (t : PS) : Prop := iI t 79 = 0 → TD t
theorem RLx_m {s : PS} {i : Nat} {x : Int32} (r : RLx s) (hi : iI s 90 ≤ (i : Int)) : RLx (uC s 162 i x) := fun j hj hs => by
  obtain ⟨r1, r2⟩ := r j hj hs
  have hs' : (j : Int) < iI s 90 := hs
  exact ⟨by rw [iC_n (by omega)]; exact r1, fun c hc => by rw [iC_n (by omega), iC_a (by omega)]; exact r2 c hc⟩
theorem RLx_l {s : PS} {k i : Nat} {x : Int32} (r : RLx s) (hi : iI s 90 ≤ (k : Int)) : RLx (uC s (178 + k) i x) := fun j hj hs => by
  obtain ⟨r1, r2⟩ := r j hj hs
  have hs' : (j : Int) < iI s 90 := hs
  by_cases e : 162 = 178 + k
  · omega
  · exact ⟨by rw [iC_a e]; exact r1, fun c hc => by rw [iC_a e, iC_a (by omega)]; exact r2 c hc⟩
theorem RLx_up {s : PS} {n : Int} (r : RLx s) (hn : iI s 90 = n) (h0 : 0 ≤ n ∧ n ≤ 11) (h1 : 1 ≤ iC s 162 (n : Int).toNat) (h2 : ∀ i : Nat, i < 128 → iC s (178 + (n : Int).toNat) i < iC s 162 (n : Int).toNat) : RLx (uI s 90 (Int32.ofInt (n + 1))) := fun j hj hs => by
  rw [iI_u ⟨by omega, by omega⟩] at hs
  show RW1 s j
  by_cases e : (j : Int) < n
  · exact r j hj (by omega)
  · have ej : j = (n : Int).toNat := by omega
    rw [ej]
    exact ⟨h1, h2⟩
theorem RLx_w {s : PS} {a i : Nat} {x : Int32} (r : RLx s) (h : a ≠ 162 ∧ ∀ j, j < 12 → 178 + j ≠ a) : RLx (uC s a i x) := fun j hj hs => by
  obtain ⟨r1, r2⟩ := r j hj hs
  exact ⟨by rw [iC_a (Ne.symm h.1)]; exact r1, fun c hc => by rw [iC_a (Ne.symm h.1), iC_a (h.2 j hj)]; exact r2 c hc⟩
section M55
variable {l : Launch} {s0 : State} {D : va_G} {tys : List (ClassId × FieldType)} {a0 : Array Value} {A : Nat → Nat} {dT : Nat → ClassId} {s : PS}
theorem k_stream (G : GX l s0 D tys a0 dT) (I : Bd s) (jRLx : RLx s) {x : Int} (p0 : rng x) : CT l s0 D A dT 200 (rmN 200) [.ref (A 179), .int (Int32.ofInt x)] s (fun o t => Bd t ∧ Fm [73, 74, 76, 90, 91, 77, 75, 78, 79, 80, 81] [165, 162, 166, 167, 168, 169, 170, 171, 172, 173, 174, 175, 176, 177, 178, 179, 180, 181, 182, 183, 184, 185, 186, 187, 188, 189] s t ∧ RLx t ∧ ∃ e, o = .inl (some (.int (Int32.ofInt e))) ∧ rng e ∧ ((0 ≤ x ∧ x ≤ iI s 74 ∧ x ≤ 100 ∧ iI t 74 = 0) ∨ ((x < 0 ∨ iI s 74 < x ∨ 100 < x) ∧ iI t 74 = iI s 74))) := by
  refine ct_of G (by decide) (Nat.le_of_ble_eq_true rfl) (fun k X E hRt hXt q => ?_)
  show WS k 0 [(0, .ref (A 179)), (1, .int (Int32.ofInt x))] [] _ 0 0
  have F : Fm [73, 74, 76, 90, 91, 77, 75, 78, 79, 80, 81] [165, 162, 166, 167, 168, 169, 170, 171, 172, 173, 174, 175, 176, 177, 178, 179, 180, 181, 182, 183, 184, 185, 186, 187, 188, 189] s s := fm_rf _ _ s
  have b1 := bi_73 I
  have b2 := bi_74 I
  have b3 := bi_77 I
  have b4 := bi_75 I
  have b5 := bi_79 I
  have b6 := bi_78 I
  have b7 := bi_90 I
  have b8 := bi_91 I
  have L94 : ∀ (n : Nat) (t : PS) (xv : Int), Bd t → Fm [73, 74, 76, 90, 91, 77, 75, 78, 79, 80, 81] [165, 162, 166, 167, 168, 169, 170, 171, 172, 173, 174, 175, 176, 177, 178, 179, 180, 181, 182, 183, 184, 185, 186, 187, 188, 189] s t → RLx t → (TDF t) → ((0 ≤ x ∧ x ≤ iI s 74 ∧ x ≤ 100) ∧ iI t 74 = 0 ∧ iI t 75 = x ∧ iI t 77 ≤ 203 ∧ (iI t 79 = 0 → iI t 77 ≤ iI t 75 + 1) ∧ 1 ≤ iI t 91 ∧ iI t 90 = iI s 90 ∧ iI s 90 ≤ 11) → (400 - iI t 77 + (9 - iI t 79) : Int).toNat < n → (∀ (t' : PS), Bd t' → Fm [73, 74, 76, 90, 91, 77, 75, 78, 79, 80, 81] [165, 162, 166, 167, 168, 169, 170, 171, 172, 173, 174, 175, 176, 177, 178, 179, 180, 181, 182, 183, 184, 185, 186, 187, 188, 189] s t' → RLx t' → (TDF t') → ((0 ≤ x ∧ x ≤ iI s 74 ∧ x ≤ 100) ∧ iI t' 74 = 0 ∧ iI t' 75 = x ∧ iI t' 77 ≤ 203 ∧ (iI t' 79 = 0 → iI t' 77 ≤ iI t' 75 + 1) ∧ 1 ≤ iI t' 91 ∧ iI t' 90 = iI s 90 ∧ iI s 90 ≤ 11) → WS k 123 [(0, .ref (A 179)), (1, .int (Int32.ofInt xv))] [] (Wd A dT t') 0 0) → WS k 94 [(0, .ref (A 179)), (1, .int (Int32.ofInt xv))] [] (Wd A dT t) 0 0 := by
    intro n
    induction n with
    | zero =>
      intro t xv I F jjRLx hq hi hm kx
      exact absurd hm (Nat.not_lt_zero _)
    | succ n ih =>
      intro t xv I F jjRLx hq hi hm kx
      have b1001 := bi_73 I
      have b1002 := bi_74 I
      have b1003 := bi_77 I
      have b1004 := bi_75 I
      have b1005 := bi_79 I
      have b1006 := bi_78 I
      have b1007 := bi_90 I
      have b1008 := bi_91 I
      refine z_aload_n X (x := A 179) rfl (List.Mem.head _) (z_getI X 179 rfl (c518_ok rfl) rfl rfl ?_)
      have b1009 := bi_79 I
      refine z_if_ne X (t := 123) rfl rfl (rng_to _) (fun g1010 => ?_) (fun g1010 => ?_)
      ·
        refine WS_pq [0, 1] (lv' := [(0, .ref (A 179)), (1, .int (Int32.ofInt xv))]) rfl ?_
        exact kx _  I F jjRLx hq (by first | exact ⟨And.intro (hi.1.1) (And.intro (hi.1.2.1) (hi.1.2.2)), hi.2.1, hi.2.2.1, hi.2.2.2.1, hi.2.2.2.2.1, hi.2.2.2.2.2.1, hi.2.2.2.2.2.2.1, hi.2.2.2.2.2.2.2⟩ | omega)
      ·
        refine z_aload_n X (x := A 179) rfl (List.Mem.head _) (z_getI X 179 rfl (c518_ok rfl) rfl rfl ?_)
        have b1011 := bi_77 I
        refine z_aload_n X (x := A 179) rfl (List.Mem.head _) (z_getI X 179 rfl (c518_ok rfl) rfl rfl ?_)
        have b1012 := bi_75 I
        refine z_icmp_ge X (t := 123) rfl rfl (rng_to _) (rng_to _) (fun g1013 => ?_) (fun g1013 => ?_)
        ·
          refine WS_pq [0, 1] (lv' := [(0, .ref (A 179)), (1, .int (Int32.ofInt xv))]) rfl ?_
          exact kx _  I F jjRLx hq (by first | exact ⟨And.intro (hi.1.1) (And.intro (hi.1.2.1) (hi.1.2.2)), hi.2.1, hi.2.2.1, hi.2.2.2.1, hi.2.2.2.2.1, hi.2.2.2.2.2.1, hi.2.2.2.2.2.2.1, hi.2.2.2.2.2.2.2⟩ | omega)
        ·
          have JTD_t : TD t := hq (by omega)
          refine z_aload_n X (x := A 179) rfl (List.Mem.head _) (zcV_v1 X E 179 (As := []) (st := []) rfl rfl rfl rfl (k_move G I JTD_t (by first | exact oq_c9c52c8f hi.2.2.2.1 | omega) (by first | exact hi.2.2.2.2.2.1 | omega)) rfl (Nat.le_of_ble_eq_true rfl) (fun s1014 Is1014 Fs1014 JTD_s1014 hps1014 => ?_))
          have hps1014p := And.intro hps1014.2.2.1 (hps1014.2.2.2.2)
          have Gs1014 := fm_tq F Fs1014 rfl rfl
          have JRLx_s1014 : RLx s1014 := RLx_fm Fs1014 (by decide) jjRLx
          have ws1014_73 : iI s1014 73 = iI t 73 := fm_iq Fs1014 rfl
          have ws1014_74 : iI s1014 74 = iI t 74 := fm_iq Fs1014 rfl
          have b1016 := bi_77 Is1014
          have ws1014_75 : iI s1014 75 = iI t 75 := fm_iq Fs1014 rfl
          have b1017 := bi_79 Is1014
          have ws1014_78 : iI s1014 78 = iI t 78 := fm_iq Fs1014 rfl
          have ws1014_90 : iI s1014 90 = iI t 90 := fm_iq Fs1014 rfl
          have b1018 := bi_91 Is1014
          refine z_aload_n X (x := A 179) rfl (List.Mem.head _) (zcV_v0 X E 179 (As := []) (st := []) rfl rfl rfl rfl (k_blanks G Is1014 (by first | exact oq_340fc885 hps1014.2.1 hi.2.2.2.1 hi.2.2.1 hi.1.2.2 | omega)) rfl (Nat.le_of_ble_eq_true rfl) (fun s1019 Is1019 Fs1019 hps1019 => ?_))
          have hps1019p := hps1019.1
          have Gs1019 := fm_tq Gs1014 Fs1019 rfl rfl
          have JRLx_s1019 : RLx s1019 := RLx_fm Fs1019 (by decide) JRLx_s1014
          have JTD_s1019 : TD s1019 := TD_fm Fs1019 (by decide) JTD_s1014
          have ws1019_73 : iI s1019 73 = iI s1014 73 := fm_iq Fs1019 rfl
          have ws1019_74 : iI s1019 74 = iI s1014 74 := fm_iq Fs1019 rfl
          have b1021 := bi_77 Is1019
          have ws1019_75 : iI s1019 75 = iI s1014 75 := fm_iq Fs1019 rfl
          have ws1019_79 : iI s1019 79 = iI s1014 79 := fm_iq Fs1019 rfl
          have ws1019_78 : iI s1019 78 = iI s1014 78 := fm_iq Fs1019 rfl
          have ws1019_90 : iI s1019 90 = iI s1014 90 := fm_iq Fs1019 rfl
          have ws1019_91 : iI s1019 91 = iI s1014 91 := fm_iq Fs1019 rfl
          refine z_goto X (t := 94) rfl rfl (WS_pq [0, 1] (lv' := [(0, .ref (A 179)), (1, .int (Int32.ofInt xv))]) rfl ?_)
          exact ih _ xv Is1019 Gs1019 JRLx_s1019 (fun _ => JTD_s1019) (by first | exact ⟨And.intro (hi.1.1) (And.intro (hi.1.2.1) (hi.1.2.2)), oq_7fe879e0 ws1019_74 ws1014_74 hi.2.1 b1002.1, oq_878618b1 ws1019_75 ws1014_75 hi.2.2.1, oq_0cb89ef4 hps1019.2 ws1014_75 hps1014.2.1 g1013 hi.2.2.1 hi.1.2.2, oq_8b437e93 ws1019_75 hps1019.2 ws1014_75 hps1014.2.1 g1013, oq_fed65c02 ws1019_91 hps1014.2.2.1, oq_d0d2714e ws1019_90 hi.2.2.2.2.2.2.1 ws1014_90, hi.2.2.2.2.2.2.2⟩ | omega) (by first | exact qk_me hm (oq_0f1f3919 ws1019_79 hps1019.1 b1017.1 hps1014.2.2.2.2 hps1014.1 g1010) (oq_faaf1092 g1010 b1011.2) | omega) kx
  have L161 : ∀ (n : Nat) (t : PS) (xv c : Int), Bd t → Fm [73, 74, 76, 90, 91, 77, 75, 78, 79, 80, 81] [165, 162, 166, 167, 168, 169, 170, 171, 172, 173, 174, 175, 176, 177, 178, 179, 180, 181, 182, 183, 184, 185, 186, 187, 188, 189] s t → RLx t → (TD t ∧ RLx t ∧ ∀ i : Nat, i < 128 → (i : Int) < c → iC t (178 + (iI s 90 : Int).toNat) i < iC t 162 (iI s 90 : Int).toNat) → ((0 ≤ x ∧ x ≤ iI s 74 ∧ x ≤ 100) ∧ iI t 74 = 0 ∧ 1 ≤ iI t 91 ∧ iI t 90 = iI s 90 ∧ iI s 90 ≤ 11 ∧ 0 ≤ c ∧ c ≤ 128 ∧ iC t 162 (iI s 90 : Int).toNat = iI t 91) → (128 - c : Int).toNat < n → (∀ (t' : PS) (c' : Int), Bd t' → Fm [73, 74, 76, 90, 91, 77, 75, 78, 79, 80, 81] [165, 162, 166, 167, 168, 169, 170, 171, 172, 173, 174, 175, 176, 177, 178, 179, 180, 181, 182, 183, 184, 185, 186, 187, 188, 189] s t' → RLx t' → (TD t' ∧ RLx t' ∧ ∀ i : Nat, i < 128 → (i : Int) < c' → iC t' (178 + (iI s 90 : Int).toNat) i < iC t' 162 (iI s 90 : Int).toNat) → ((0 ≤ x ∧ x ≤ iI s 74 ∧ x ≤ 100) ∧ iI t' 74 = 0 ∧ 1 ≤ iI t' 91 ∧ iI t' 90 = iI s 90 ∧ iI s 90 ≤ 11 ∧ c' = 128 ∧ iC t' 162 (iI s 90 : Int).toNat = iI t' 91) → WS k 186 [(0, .ref (A 179)), (1, .int (Int32.ofInt xv)), (2, .int (Int32.ofInt c'))] [] (Wd A dT t') 0 0) → WS k 161 [(0, .ref (A 179)), (1, .int (Int32.ofInt xv)), (2, .int (Int32.ofInt c))] [] (Wd A dT t) 0 0 := by
    intro n
    induction n with
    | zero =>
      intro t xv c I F jjRLx hq hi hm kx
      exact absurd hm (Nat.not_lt_zero _)
    | succ n ih =>
      intro t xv c I F jjRLx hq hi hm kx
      have b2001 := bi_73 I
      have b2002 := bi_74 I
      have b2003 := bi_77 I
      have b2004 := bi_75 I
      have b2005 := bi_79 I
      have b2006 := bi_78 I
      have b2007 := bi_90 I
      have b2008 := bi_91 I
      refine z_load_n X (x := c) rfl (List.Mem.tail _ (List.Mem.tail _ (List.Mem.head _))) (z_sipush X rfl (z_icmp_ge X (t := 186) rfl rfl ⟨by first | exact oq_fa4e5087 hi.2.2.2.2.2.1 | omega, by first | exact oq_4ee82282 hi.2.2.2.2.2.2.1 | omega⟩ (by decide) (fun g2009 => ?_) (fun g2009 => ?_)))
      ·
        refine WS_pq [0, 1, 2] (lv' := [(0, .ref (A 179)), (1, .int (Int32.ofInt xv)), (2, .int (Int32.ofInt c))]) rfl ?_
        exact kx _ c I F jjRLx hq (by first | exact ⟨And.intro (hi.1.1) (And.intro (hi.1.2.1) (hi.1.2.2)), hi.2.1, hi.2.2.1, hi.2.2.2.1, hi.2.2.2.2.1, oq_42fe298a hi.2.2.2.2.2.2.1 g2009, hi.2.2.2.2.2.2.2⟩ | omega)
      ·
        refine z_aload_n X (x := A 179) rfl (List.Mem.head _) (s_getR X 179 rfl (c518_ok rfl) rfl rfl (z_aload_n X (x := A 179) rfl (List.Mem.head _) (z_getI X 179 rfl (c518_ok rfl) rfl rfl ?_)))
        have b2010 := bi_90 I
        refine z_aald X rw_202 rfl (by first | exact b2010.1 | omega) (show (iI t 90) < 12 by first | exact oq_210fcd76 hi.2.2.2.1 hi.2.2.2.2.1 | omega) (by decide) (z_load_n X (x := c) rfl (List.Mem.tail _ (List.Mem.tail _ (List.Mem.head _))) (z_const X rfl (z_ast2 X rw_202 rfl (show ((iI t 90) : Int).toNat < 12 by first | exact oq_cba5df33 hi.2.2.2.1 hi.2.2.2.2.1 | omega) (by first | exact hi.2.2.2.2.2.1 | omega) (show c < 128 by first | exact g2009 | omega) (by decide) (wd_gen (fun s2011 hs2011 => ?_)))))
        have Is2011 : Bd s2011 := eqB hs2011 (rw_st rw_202 I (show ((iI t 90) : Int).toNat < 12 by first | exact oq_cba5df33 hi.2.2.2.1 hi.2.2.2.2.1 | omega) (show ((-1) : Int) ≤ (-1) ∧ (-1) ≤ 23 by first | exact ⟨by decide, by decide⟩ | omega) (by decide))
        have Fs2011 := eqF hs2011 (fm_C (i := (c : Int).toNat) (x := Int32.ofInt (-1)) F ((show ∀ j, j < 12 → 178 + j ∈ _ by decide) ((iI t 90) : Int).toNat (by first | exact oq_cba5df33 hi.2.2.2.1 hi.2.2.2.2.1 | omega)))
        have ws2011_73 : iI s2011 73 = iI t 73 := eqI hs2011 rfl
        have ws2011_74 : iI s2011 74 = iI t 74 := eqI hs2011 rfl
        have ws2011_77 : iI s2011 77 = iI t 77 := eqI hs2011 rfl
        have ws2011_75 : iI s2011 75 = iI t 75 := eqI hs2011 rfl
        have ws2011_79 : iI s2011 79 = iI t 79 := eqI hs2011 rfl
        have ws2011_78 : iI s2011 78 = iI t 78 := eqI hs2011 rfl
        have ws2011_90 : iI s2011 90 = iI t 90 := eqI hs2011 rfl
        have ws2011_91 : iI s2011 91 = iI t 91 := eqI hs2011 rfl
        have fs2011 : Fm [] [178, 179, 180, 181, 182, 183, 184, 185, 186, 187, 188, 189] t s2011 := by rw [hs2011]; exact fm_C (fm_rf _ _ _) ((show ∀ j, j < 12 → 178 + j ∈ _ by decide) ((iI t 90) : Int).toNat (by first | exact oq_cba5df33 hi.2.2.2.1 hi.2.2.2.2.1 | omega))
        have JTD_s2011 : TD s2011 := TD_fm fs2011 (by decide) hq.1
        refine z_inc X (x := c) (lv' := [(2, .int (Int32.ofInt (c + 1))), (0, .ref (A 179)), (1, .int (Int32.ofInt xv))]) rfl (by decide) (List.Mem.tail _ (List.Mem.tail _ (List.Mem.head _))) (fun _ h => h) (z_goto X (t := 161) rfl rfl (WS_pq [1, 2, 0] (lv' := [(0, .ref (A 179)), (1, .int (Int32.ofInt xv)), (2, .int (Int32.ofInt (c + 1)))]) rfl ?_))
        have es_s2011 : iI t 90 = iI s 90 := by omega
        have vm_s2011 : iC s2011 162 (iI s 90 : Int).toNat = iC t 162 (iI s 90 : Int).toNat := by rw [hs2011, iC_a (by omega)]
        have hL2012 : TD s2011 ∧ RLx s2011 ∧ ∀ i : Nat, i < 128 → (i : Int) < (c + 1) → iC s2011 (178 + (iI s 90 : Int).toNat) i < iC s2011 162 (iI s 90 : Int).toNat := by
          refine ⟨JTD_s2011, by rw [hs2011, es_s2011]; exact RLx_l hq.2.1 (by omega), fun i hi h => ?_⟩
          rw [vm_s2011]
          by_cases e : i = (c : Int).toNat
          · rw [e, hs2011, es_s2011, iC_u ⟨by omega, by omega⟩]; omega
          · rw [hs2011, es_s2011, iC_n e]; exact hq.2.2 i hi (by omega)
        exact ih _ xv (c + 1) Is2011 Fs2011 hL2012.2.1 hL2012 (by first | exact ⟨And.intro (hi.1.1) (And.intro (hi.1.2.1) (hi.1.2.2)), oq_333640b7 ws2011_74 hi.2.1 b2002.1, oq_fed65c02 ws2011_91 hi.2.2.1, oq_1aa5be9e ws2011_90 es_s2011, hi.2.2.2.2.1, oq_54f49eb5 hi.2.2.2.2.2.1, oq_d2afb425 g2009, oq_f5ee3737 ws2011_91 vm_s2011 hi.2.2.2.2.2.2.2⟩ | omega) (by first | exact qk_me hm (by decide) (oq_c268b7bd g2009) | omega) kx
  have L188 : ∀ (n : Nat) (t : PS) (xv c : Int), Bd t → Fm [73, 74, 76, 90, 91, 77, 75, 78, 79, 80, 81] [165, 162, 166, 167, 168, 169, 170, 171, 172, 173, 174, 175, 176, 177, 178, 179, 180, 181, 182, 183, 184, 185, 186, 187, 188, 189] s t → RLx t → (TD t ∧ RLx t ∧ ∀ i : Nat, i < 128 → (i : Int) < 128 → iC t (178 + (iI s 90 : Int).toNat) i < iC t 162 (iI s 90 : Int).toNat) → ((0 ≤ x ∧ x ≤ iI s 74 ∧ x ≤ 100) ∧ iI t 74 = 0 ∧ 1 ≤ iI t 91 ∧ iI t 90 = iI s 90 ∧ iI s 90 ≤ 11 ∧ 0 ≤ c ∧ c ≤ 24 ∧ iC t 162 (iI s 90 : Int).toNat = iI t 91) → (24 - c : Int).toNat < n → (∀ (t' : PS) (c' : Int), Bd t' → Fm [73, 74, 76, 90, 91, 77, 75, 78, 79, 80, 81] [165, 162, 166, 167, 168, 169, 170, 171, 172, 173, 174, 175, 176, 177, 178, 179, 180, 181, 182, 183, 184, 185, 186, 187, 188, 189] s t' → RLx t' → (TD t' ∧ RLx t' ∧ ∀ i : Nat, i < 128 → (i : Int) < 128 → iC t' (178 + (iI s 90 : Int).toNat) i < iC t' 162 (iI s 90 : Int).toNat) → ((0 ≤ x ∧ x ≤ iI s 74 ∧ x ≤ 100) ∧ iI t' 74 = 0 ∧ 1 ≤ iI t' 91 ∧ iI t' 90 = iI s 90 ∧ iI s 90 ≤ 11 ∧ 0 ≤ c' ∧ c' ≤ 24 ∧ iC t' 162 (iI s 90 : Int).toNat = iI t' 91) → WS k 236 [(0, .ref (A 179)), (1, .int (Int32.ofInt xv)), (2, .int (Int32.ofInt c'))] [] (Wd A dT t') 0 0) → WS k 188 [(0, .ref (A 179)), (1, .int (Int32.ofInt xv)), (2, .int (Int32.ofInt c))] [] (Wd A dT t) 0 0 := by
    intro n
    induction n with
    | zero =>
      intro t xv c I F jjRLx hq hi hm kx
      exact absurd hm (Nat.not_lt_zero _)
    | succ n ih =>
      intro t xv c I F jjRLx hq hi hm kx
      have b3001 := bi_73 I
      have b3002 := bi_74 I
      have b3003 := bi_77 I
      have b3004 := bi_75 I
      have b3005 := bi_79 I
      have b3006 := bi_78 I
      have b3007 := bi_90 I
      have b3008 := bi_91 I
      refine z_load_n X (x := c) rfl (List.Mem.tail _ (List.Mem.tail _ (List.Mem.head _))) (z_aload_n X (x := A 179) rfl (List.Mem.head _) (z_getI X 179 rfl (c518_ok rfl) rfl rfl ?_))
      have b3009 := bi_91 I
      refine z_icmp_ge X (t := 236) rfl rfl ⟨by first | exact oq_fa4e5087 hi.2.2.2.2.2.1 | omega, by first | exact oq_5bcd337f hi.2.2.2.2.2.2.1 | omega⟩ (rng_to _) (fun g3010 => ?_) (fun g3010 => ?_)
      ·
        refine WS_pq [0, 1, 2] (lv' := [(0, .ref (A 179)), (1, .int (Int32.ofInt xv)), (2, .int (Int32.ofInt c))]) rfl ?_
        exact kx _ c I F jjRLx hq (by first | exact ⟨And.intro (hi.1.1) (And.intro (hi.1.2.1) (hi.1.2.2)), hi.2.1, hi.2.2.1, hi.2.2.2.1, hi.2.2.2.2.1, hi.2.2.2.2.2.1, hi.2.2.2.2.2.2.1, hi.2.2.2.2.2.2.2⟩ | omega)
      ·
        refine z_aload_n X (x := A 179) rfl (List.Mem.head _) (s_getR X 179 rfl (c518_ok rfl) rfl rfl (z_aload_n X (x := A 179) rfl (List.Mem.head _) (z_getI X 179 rfl (c518_ok rfl) rfl rfl ?_)))
        have b3011 := bi_90 I
        refine z_aald X rw_189 rfl (by first | exact b3011.1 | omega) (show (iI t 90) < 12 by first | exact oq_210fcd76 hi.2.2.2.1 hi.2.2.2.2.1 | omega) (by decide) (z_load_n X (x := c) rfl (List.Mem.tail _ (List.Mem.tail _ (List.Mem.head _))) (z_aload_n X (x := A 179) rfl (List.Mem.head _) (s_getR X 179 rfl (c518_ok rfl) rfl rfl (z_load_n X (x := c) rfl (List.Mem.tail _ (List.Mem.tail _ (List.Mem.head _))) ?_))))
        have hT3012 := hq.1 (c : Int).toNat (by omega)
        refine z_ald X 188 rfl (c518_ok rfl) rfl (by first | exact hi.2.2.2.2.2.1 | omega) (show c < 24 by first | exact oq_8ff7beb9 g3010 b3009.2 | omega) (cbig_ok rfl) ?_
        have b3013 := bc_165 I (show (c).toNat < 24 by first | exact oq_9e668fc9 g3010 b3009.2 | omega)
        refine z_ast2 X rw_189 rfl (show ((iI t 90) : Int).toNat < 12 by first | exact oq_cba5df33 hi.2.2.2.1 hi.2.2.2.2.1 | omega) (by first | exact hi.2.2.2.2.2.1 | omega) (show c < 24 by first | exact oq_8ff7beb9 g3010 b3009.2 | omega) (by decide) (wd_gen (fun s3014 hs3014 => ?_))
        have Is3014 : Bd s3014 := eqB hs3014 (rw_st rw_189 I (show ((iI t 90) : Int).toNat < 12 by first | exact oq_cba5df33 hi.2.2.2.1 hi.2.2.2.2.1 | omega) (show (0 : Int) ≤ (iC t 165 (c).toNat) ∧ (iC t 165 (c).toNat) ≤ 127 by omega) (rng_to _))
        have Fs3014 := eqF hs3014 (fm_C (i := (c : Int).toNat) (x := Int32.ofInt (iC t 165 (c).toNat)) F ((show ∀ j, j < 12 → 166 + j ∈ _ by decide) ((iI t 90) : Int).toNat (by first | exact oq_cba5df33 hi.2.2.2.1 hi.2.2.2.2.1 | omega)))
        have ws3014_73 : iI s3014 73 = iI t 73 := eqI hs3014 rfl
        have ws3014_74 : iI s3014 74 = iI t 74 := eqI hs3014 rfl
        have ws3014_77 : iI s3014 77 = iI t 77 := eqI hs3014 rfl
        have ws3014_75 : iI s3014 75 = iI t 75 := eqI hs3014 rfl
        have ws3014_79 : iI s3014 79 = iI t 79 := eqI hs3014 rfl
        have ws3014_78 : iI s3014 78 = iI t 78 := eqI hs3014 rfl
        have ws3014_90 : iI s3014 90 = iI t 90 := eqI hs3014 rfl
        have ws3014_91 : iI s3014 91 = iI t 91 := eqI hs3014 rfl
        have fs3014 : Fm [] [166, 167, 168, 169, 170, 171, 172, 173, 174, 175, 176, 177] t s3014 := by rw [hs3014]; exact fm_C (fm_rf _ _ _) ((show ∀ j, j < 12 → 166 + j ∈ _ by decide) ((iI t 90) : Int).toNat (by first | exact oq_cba5df33 hi.2.2.2.1 hi.2.2.2.2.1 | omega))
        have JRLx_s3014 : RLx s3014 := RLx_fm fs3014 (by decide) jjRLx
        have JTD_s3014 : TD s3014 := TD_fm fs3014 (by decide) hq.1
        refine z_aload_n X (x := A 179) rfl (List.Mem.head _) (s_getR X 179 rfl (c518_ok rfl) rfl rfl (z_aload_n X (x := A 179) rfl (List.Mem.head _) (z_getI X 179 rfl (c518_ok rfl) rfl rfl ?_)))
        have b3015 := bi_90 Is3014
        refine z_aald X rw_202 rfl (by first | exact b3015.1 | omega) (show (iI s3014 90) < 12 by first | exact oq_e2284db0 ws3014_90 hi.2.2.2.1 hi.2.2.2.2.1 | omega) (by decide) (z_aload_n X (x := A 179) rfl (List.Mem.head _) (s_getR X 179 rfl (c518_ok rfl) rfl rfl (z_load_n X (x := c) rfl (List.Mem.tail _ (List.Mem.tail _ (List.Mem.head _))) ?_)))
        have hT3016 := JTD_s3014 (c : Int).toNat (by omega)
        refine z_ald X 188 rfl (c518_ok rfl) rfl (by first | exact hi.2.2.2.2.2.1 | omega) (show c < 24 by first | exact oq_8ff7beb9 g3010 b3009.2 | omega) (cbig_ok rfl) ?_
        have b3017 := bc_165 Is3014 (show (c).toNat < 24 by first | exact oq_9e668fc9 g3010 b3009.2 | omega)
        refine z_load_n X (x := c) rfl (List.Mem.tail _ (List.Mem.tail _ (List.Mem.head _))) (z_ast2 X rw_202 rfl (show ((iI s3014 90) : Int).toNat < 12 by first | exact oq_29bc6d1f ws3014_90 hi.2.2.2.1 hi.2.2.2.2.1 | omega) (by omega) (show (iC s3014 165 (c).toNat) < 128 by omega) (by decide) (wd_gen (fun s3018 hs3018 => ?_)))
        have Is3018 : Bd s3018 := eqB hs3018 (rw_st rw_202 Is3014 (show ((iI s3014 90) : Int).toNat < 12 by first | exact oq_29bc6d1f ws3014_90 hi.2.2.2.1 hi.2.2.2.2.1 | omega) (show ((-1) : Int) ≤ c ∧ c ≤ 23 by first | exact ⟨oq_ca54ea22 hi.2.2.2.2.2.1, oq_10212474 g3010 b3009.2⟩ | omega) ⟨by first | exact oq_fa4e5087 hi.2.2.2.2.2.1 | omega, by first | exact oq_5bcd337f hi.2.2.2.2.2.2.1 | omega⟩)
        have Fs3018 := eqF hs3018 (fm_C (i := ((iC s3014 165 (c).toNat) : Int).toNat) (x := Int32.ofInt c) Fs3014 ((show ∀ j, j < 12 → 178 + j ∈ _ by decide) ((iI s3014 90) : Int).toNat (by first | exact oq_29bc6d1f ws3014_90 hi.2.2.2.1 hi.2.2.2.2.1 | omega)))
        have ws3018_73 : iI s3018 73 = iI s3014 73 := eqI hs3018 rfl
        have ws3018_74 : iI s3018 74 = iI s3014 74 := eqI hs3018 rfl
        have ws3018_77 : iI s3018 77 = iI s3014 77 := eqI hs3018 rfl
        have ws3018_75 : iI s3018 75 = iI s3014 75 := eqI hs3018 rfl
        have ws3018_79 : iI s3018 79 = iI s3014 79 := eqI hs3018 rfl
        have ws3018_78 : iI s3018 78 = iI s3014 78 := eqI hs3018 rfl
        have ws3018_90 : iI s3018 90 = iI s3014 90 := eqI hs3018 rfl
        have ws3018_91 : iI s3018 91 = iI s3014 91 := eqI hs3018 rfl
        have fs3018 : Fm [] [178, 179, 180, 181, 182, 183, 184, 185, 186, 187, 188, 189] s3014 s3018 := by rw [hs3018]; exact fm_C (fm_rf _ _ _) ((show ∀ j, j < 12 → 178 + j ∈ _ by decide) ((iI s3014 90) : Int).toNat (by first | exact oq_29bc6d1f ws3014_90 hi.2.2.2.1 hi.2.2.2.2.1 | omega))
        have JTD_s3018 : TD s3018 := TD_fm fs3018 (by decide) JTD_s3014
        refine z_inc X (x := c) (lv' := [(2, .int (Int32.ofInt (c + 1))), (0, .ref (A 179)), (1, .int (Int32.ofInt xv))]) rfl (by decide) (List.Mem.tail _ (List.Mem.tail _ (List.Mem.head _))) (fun _ h => h) (z_goto X (t := 188) rfl rfl (WS_pq [1, 2, 0] (lv' := [(0, .ref (A 179)), (1, .int (Int32.ofInt xv)), (2, .int (Int32.ofInt (c + 1)))]) rfl ?_))
        have es_s3018 : iI s3014 90 = iI s 90 := by omega
        have eo_s3018 : iI t 90 = iI s 90 := by omega
        have vm_s3018 : iC s3018 162 (iI s 90 : Int).toNat = iC t 162 (iI s 90 : Int).toNat := by rw [hs3018, iC_a (by omega), hs3014, iC_a (by omega)]
        have rl_s3018 : RLx s3014 := by rw [hs3014]; exact RLx_w hq.2.1 ⟨by omega, fun j hj => by omega⟩
        have hL3019 : TD s3018 ∧ RLx s3018 ∧ ∀ i : Nat, i < 128 → (i : Int) < 128 → iC s3018 (178 + (iI s 90 : Int).toNat) i < iC s3018 162 (iI s 90 : Int).toNat := by
          refine ⟨JTD_s3018, by rw [hs3018, es_s3018]; exact RLx_l rl_s3018 (by omega), fun i hi h => ?_⟩
          rw [vm_s3018]
          by_cases e : i = ((iC s3014 165 (c).toNat) : Int).toNat
          · rw [e, hs3018, es_s3018, iC_u ⟨by omega, by omega⟩]; omega
          · rw [hs3018, es_s3018, iC_n e, hs3014, iC_a (by omega)]; exact hq.2.2 i hi (by omega)
        exact ih _ xv (c + 1) Is3018 Fs3018 hL3019.2.1 hL3019 (by first | exact ⟨And.intro (hi.1.1) (And.intro (hi.1.2.1) (hi.1.2.2)), oq_7fe879e0 ws3018_74 ws3014_74 hi.2.1 b3002.1, oq_48a46d4a ws3018_91 ws3014_91 hi.2.2.1, oq_1aa5be9e ws3018_90 es_s3018, hi.2.2.2.2.1, oq_54f49eb5 hi.2.2.2.2.2.1, oq_41473be0 g3010 b3009.2, oq_123e5d3a ws3018_91 vm_s3018 ws3014_91 hi.2.2.2.2.2.2.2⟩ | omega) (by first | exact qk_me hm (by decide) (oq_9dea93e6 g3010 b3009.2) | omega) kx
  refine z_aload_n X (x := A 179) rfl (List.Mem.head _) (z_const X rfl (s_putI X 179 rfl (c518_ok rfl) rfl rfl (by decide) rfl rfl rfl (wd_gen (fun s9 hs9 => ?_))))
  have Is9 : Bd s9 := eqB hs9 (bd_I I (show (0 : Int) ≤ 0 ∧ 0 ≤ 3 by first | exact ⟨by decide, by decide⟩ | omega) (by decide))
  have Fs9 := eqF hs9 (fm_I F (inl_ok (a := 73) rfl))
  have vs9 : iI s9 73 = 0 := eqI hs9 (iI_u (by decide))
  have ws9_74 : iI s9 74 = iI s 74 := eqI hs9 rfl
  have ws9_77 : iI s9 77 = iI s 77 := eqI hs9 rfl
  have ws9_75 : iI s9 75 = iI s 75 := eqI hs9 rfl
  have ws9_79 : iI s9 79 = iI s 79 := eqI hs9 rfl
  have ws9_78 : iI s9 78 = iI s 78 := eqI hs9 rfl
  have ws9_90 : iI s9 90 = iI s 90 := eqI hs9 rfl
  have ws9_91 : iI s9 91 = iI s 91 := eqI hs9 rfl
  have fs9 : Fm [73] [] s s9 := by rw [hs9]; exact fm_I (fm_rf _ _ _) (show 73 ∈ _ by decide)
  have JRLx_s9 : RLx s9 := RLx_fm fs9 (by decide) jRLx
  refine z_aload_n X (x := A 179) rfl (List.Mem.head _) (z_load_n X (x := x) rfl (List.Mem.tail _ (List.Mem.head _)) (z_const X rfl (z_aload_n X (x := A 179) rfl (List.Mem.head _) (z_getI X 179 rfl (c518_ok rfl) rfl rfl ?_))))
  have b10 := bi_74 Is9
  refine z_bipush X rfl ?_
  have N11 : ∀ e12 : Int, (((100 ≤ (iI s9 74)) ∧ e12 = 100) ∨ (((iI s9 74) < 100) ∧ ((0 : Int) ≤ iI s9 74 ∧ iI s9 74 ≤ 200) ∧ e12 = (iI s9 74))) → WS k 26 [(0, .ref (A 179)), (1, .int (Int32.ofInt x))] [.int (Int32.ofInt e12), .int (Int32.ofInt 0), .int (Int32.ofInt x), .ref (A 179)] (Wd A dT s9) 0 0 := by
    intro e12 he12
    refine zcS_i0 X E (As := [.int (Int32.ofInt x), .int (Int32.ofInt 0), .int (Int32.ofInt e12)]) (st := [.ref (A 179)]) rfl rfl (k_in G Is9 (by first | exact ⟨p0.1, p0.2⟩ | omega) (by first | exact ⟨by decide, by decide⟩ | omega) (by first | exact ⟨oq_24bf7586 he12 b10.1, oq_1539ade6 he12⟩ | omega)) rfl (Nat.le_of_ble_eq_true rfl) (fun s13 e14 Is13 Fs13 hrs13 hps13 => ?_)
    have Gs13 := fm_tq Fs9 Fs13 rfl rfl
    have JRLx_s13 : RLx s13 := RLx_fm Fs13 (by decide) JRLx_s9
    have ws13_73 : iI s13 73 = iI s9 73 := fm_iq Fs13 rfl
    have ws13_74 : iI s13 74 = iI s9 74 := fm_iq Fs13 rfl
    have ws13_77 : iI s13 77 = iI s9 77 := fm_iq Fs13 rfl
    have ws13_75 : iI s13 75 = iI s9 75 := fm_iq Fs13 rfl
    have ws13_79 : iI s13 79 = iI s9 79 := fm_iq Fs13 rfl
    have ws13_78 : iI s13 78 = iI s9 78 := fm_iq Fs13 rfl
    have ws13_90 : iI s13 90 = iI s9 90 := fm_iq Fs13 rfl
    have ws13_91 : iI s13 91 = iI s9 91 := fm_iq Fs13 rfl
    have N15 : ∀ e16 : Int, (((e14 ≠ 0) ∧ e16 = 0) ∨ ((e14 = 0) ∧ e16 = 1)) → WS k 37 [(0, .ref (A 179)), (1, .int (Int32.ofInt x))] [.int (Int32.ofInt e16), .ref (A 179)] (Wd A dT s13) 0 0 := by
      intro e16 he16
      have re16 : 0 ≤ e16 ∧ e16 ≤ 1 := by first | (clear he16 hps13 he12; omega) | (clear hps13 he12; omega) | omega
      refine z_const X rfl (zcV_i0 X E 179 (As := [.int (Int32.ofInt e16), .int (Int32.ofInt 1)]) (st := []) rfl rfl rfl rfl (k_bad G Is13 (by first | exact oq_31e518ae re16.2 re16.1 | omega) (by first | exact ⟨by decide, by decide⟩ | omega)) rfl (Nat.le_of_ble_eq_true rfl) (fun s17 e18 Is17 Fs17 hrs17 hps17 => ?_))
      have Gs17 := fm_tq Gs13 Fs17 rfl rfl
      have JRLx_s17 : RLx s17 := RLx_fm Fs17 (by decide) JRLx_s13
      have b19 := bi_73 Is17
      have ws17_74 : iI s17 74 = iI s13 74 := fm_iq Fs17 rfl
      have ws17_77 : iI s17 77 = iI s13 77 := fm_iq Fs17 rfl
      have ws17_75 : iI s17 75 = iI s13 75 := fm_iq Fs17 rfl
      have ws17_79 : iI s17 79 = iI s13 79 := fm_iq Fs17 rfl
      have ws17_78 : iI s17 78 = iI s13 78 := fm_iq Fs17 rfl
      have ws17_90 : iI s17 90 = iI s13 90 := fm_iq Fs17 rfl
      have ws17_91 : iI s17 91 = iI s13 91 := fm_iq Fs17 rfl
      refine z_if_eq X (t := 46) rfl rfl hrs17 (fun g20 => ?_) (fun g20 => ?_)
      ·
        refine z_aload_n X (x := A 179) rfl (List.Mem.head _) (z_const X rfl (s_putI X 179 rfl (c518_ok rfl) rfl rfl (by decide) rfl rfl rfl (wd_gen (fun s21 hs21 => ?_))))
        have Is21 : Bd s21 := eqB hs21 (bd_I Is17 (show (0 : Int) ≤ 0 ∧ 0 ≤ 200 by first | exact ⟨by decide, by decide⟩ | omega) (by decide))
        have Fs21 := eqF hs21 (fm_I Gs17 (inl_ok (a := 74) rfl))
        have vs21 : iI s21 74 = 0 := eqI hs21 (iI_u (by decide))
        have ws21_73 : iI s21 73 = iI s17 73 := eqI hs21 rfl
        have ws21_77 : iI s21 77 = iI s17 77 := eqI hs21 rfl
        have ws21_75 : iI s21 75 = iI s17 75 := eqI hs21 rfl
        have ws21_79 : iI s21 79 = iI s17 79 := eqI hs21 rfl
        have ws21_78 : iI s21 78 = iI s17 78 := eqI hs21 rfl
        have ws21_90 : iI s21 90 = iI s17 90 := eqI hs21 rfl
        have ws21_91 : iI s21 91 = iI s17 91 := eqI hs21 rfl
        have fs21 : Fm [74] [] s17 s21 := by rw [hs21]; exact fm_I (fm_rf _ _ _) (show 74 ∈ _ by decide)
        have JRLx_s21 : RLx s21 := RLx_fm fs21 (by decide) JRLx_s17
        refine z_aload_n X (x := A 179) rfl (List.Mem.head _) (z_const X rfl (s_putI X 179 rfl (c518_ok rfl) rfl rfl (by decide) rfl rfl rfl (wd_gen (fun s22 hs22 => ?_))))
        have Is22 : Bd s22 := eqB hs22 (bd_I Is21 (show ((-1) : Int) ≤ (-1) ∧ (-1) ≤ 400 by first | exact ⟨by decide, by decide⟩ | omega) (by decide))
        have Fs22 := eqF hs22 (fm_I Fs21 (inl_ok (a := 76) rfl))
        have vs22 : iI s22 76 = (-1) := eqI hs22 (iI_u (by decide))
        have ws22_73 : iI s22 73 = iI s21 73 := eqI hs22 rfl
        have ws22_74 : iI s22 74 = iI s21 74 := eqI hs22 rfl
        have ws22_77 : iI s22 77 = iI s21 77 := eqI hs22 rfl
        have ws22_75 : iI s22 75 = iI s21 75 := eqI hs22 rfl
        have ws22_79 : iI s22 79 = iI s21 79 := eqI hs22 rfl
        have ws22_78 : iI s22 78 = iI s21 78 := eqI hs22 rfl
        have ws22_90 : iI s22 90 = iI s21 90 := eqI hs22 rfl
        have ws22_91 : iI s22 91 = iI s21 91 := eqI hs22 rfl
        have fs22 : Fm [76] [] s21 s22 := by rw [hs22]; exact fm_I (fm_rf _ _ _) (show 76 ∈ _ by decide)
        have JRLx_s22 : RLx s22 := RLx_fm fs22 (by decide) JRLx_s21
        refine z_aload_n X (x := A 179) rfl (List.Mem.head _) (z_getI X 179 rfl (c518_ok rfl) rfl rfl ?_)
        have b23 := bi_90 Is22
        refine z_bipush X rfl (z_icmp_ne X (t := 67) rfl rfl (rng_to _) (by decide) (fun g24 => ?_) (fun g24 => ?_))
        ·
          refine z_aload_n X (x := A 179) rfl (List.Mem.head _) (z_load_n X (x := x) rfl (List.Mem.tail _ (List.Mem.head _)) (zcV_v0 X E 179 (As := [.int (Int32.ofInt x)]) (st := []) rfl rfl rfl rfl (k_beginText G Is22 (by first | exact ⟨oq_802cfd8b g20 hps17.2.1 re16.2 he16 hps13, oq_d963a19e g20 hps17.2.1 re16.2 he16 hps13 he12⟩ | omega)) rfl (Nat.le_of_ble_eq_true rfl) (fun s25 Is25 Fs25 hps25 => ?_)))
          have Gs25 := fm_tq Fs22 Fs25 rfl rfl
          have JRLx_s25 : RLx s25 := RLx_fm Fs25 (by decide) JRLx_s22
          have ws25_73 : iI s25 73 = iI s22 73 := fm_iq Fs25 rfl
          have ws25_74 : iI s25 74 = iI s22 74 := fm_iq Fs25 rfl
          have b27 := bi_77 Is25
          have b28 := bi_75 Is25
          have b29 := bi_79 Is25
          have b30 := bi_78 Is25
          have ws25_90 : iI s25 90 = iI s22 90 := fm_iq Fs25 rfl
          have ws25_91 : iI s25 91 = iI s22 91 := fm_iq Fs25 rfl
          refine z_aload_n X (x := A 179) rfl (List.Mem.head _) (z_const X rfl (s_putI X 179 rfl (c518_ok rfl) rfl rfl (by decide) rfl rfl rfl (wd_gen (fun s31 hs31 => ?_))))
          have Is31 : Bd s31 := eqB hs31 (bd_I Is25 (show (0 : Int) ≤ 1 ∧ 1 ≤ 24 by first | exact ⟨by decide, by decide⟩ | omega) (by decide))
          have Fs31 := eqF hs31 (fm_I Gs25 (inl_ok (a := 91) rfl))
          have vs31 : iI s31 91 = 1 := eqI hs31 (iI_u (by decide))
          have ws31_73 : iI s31 73 = iI s25 73 := eqI hs31 rfl
          have ws31_74 : iI s31 74 = iI s25 74 := eqI hs31 rfl
          have ws31_77 : iI s31 77 = iI s25 77 := eqI hs31 rfl
          have ws31_75 : iI s31 75 = iI s25 75 := eqI hs31 rfl
          have ws31_79 : iI s31 79 = iI s25 79 := eqI hs31 rfl
          have ws31_78 : iI s31 78 = iI s25 78 := eqI hs31 rfl
          have ws31_90 : iI s31 90 = iI s25 90 := eqI hs31 rfl
          have fs31 : Fm [91] [] s25 s31 := by rw [hs31]; exact fm_I (fm_rf _ _ _) (show 91 ∈ _ by decide)
          have JRLx_s31 : RLx s31 := RLx_fm fs31 (by decide) JRLx_s25
          refine z_aload_n X (x := A 179) rfl (List.Mem.head _) (s_getR X 179 rfl (c518_ok rfl) rfl rfl (z_const X rfl (z_aload_n X (x := A 179) rfl (List.Mem.head _) (z_const X rfl (z_bipush X rfl (zcV_i0 X E 179 (As := [.int (Int32.ofInt 0), .int (Int32.ofInt 127)]) (st := [.int (Int32.ofInt 0), .ref (A 188)]) rfl rfl rfl rfl (k_number G Is31 (by first | exact ⟨by decide, by decide⟩ | omega) (by first | exact ⟨by decide, by decide⟩ | omega) (by first | exact oq_c2d9d76f ws31_77 hps25.2.1 | omega)) rfl (Nat.le_of_ble_eq_true rfl) (fun s32 e33 Is32 Fs32 hrs32 hps32 => ?_)))))))
          have hps32p := And.intro hps32.1 (hps32.2.2.2.2)
          have Gs32 := fm_tq Fs31 Fs32 rfl rfl
          have JRLx_s32 : RLx s32 := RLx_fm Fs32 (by decide) JRLx_s31
          have ws32_73 : iI s32 73 = iI s31 73 := fm_iq Fs32 rfl
          have ws32_74 : iI s32 74 = iI s31 74 := fm_iq Fs32 rfl
          have b34 := bi_77 Is32
          have ws32_75 : iI s32 75 = iI s31 75 := fm_iq Fs32 rfl
          have b35 := bi_79 Is32
          have ws32_78 : iI s32 78 = iI s31 78 := fm_iq Fs32 rfl
          have ws32_90 : iI s32 90 = iI s31 90 := fm_iq Fs32 rfl
          have ws32_91 : iI s32 91 = iI s31 91 := fm_iq Fs32 rfl
          refine z_ast X 188 rfl (c518_ok rfl) rfl (by decide) (show 0 < 24 by decide) (cbig_ok rfl) (wd_gen (fun s36 hs36 => ?_))
          have Is36 : Bd s36 := eqB hs36 (bd_C Is32 (show ((-2147483648) : Int) ≤ e33 ∧ e33 ≤ 2147483647 by first | exact ⟨by first | (clear hps32 g24 hps17 he16 hps13 he12; omega) | (clear g24 hps17 he16 hps13 he12; omega) | omega, oq_25953902 hps32.2.2.2.2⟩ | omega) hrs32)
          have Fs36 := eqF hs36 (fm_C Gs32 (inl_ok (a := 165) rfl))
          have ws36_73 : iI s36 73 = iI s32 73 := eqI hs36 rfl
          have ws36_74 : iI s36 74 = iI s32 74 := eqI hs36 rfl
          have ws36_77 : iI s36 77 = iI s32 77 := eqI hs36 rfl
          have ws36_75 : iI s36 75 = iI s32 75 := eqI hs36 rfl
          have ws36_79 : iI s36 79 = iI s32 79 := eqI hs36 rfl
          have ws36_78 : iI s36 78 = iI s32 78 := eqI hs36 rfl
          have ws36_90 : iI s36 90 = iI s32 90 := eqI hs36 rfl
          have ws36_91 : iI s36 91 = iI s32 91 := eqI hs36 rfl
          have fs36 : Fm [] [165] s32 s36 := by rw [hs36]; exact fm_C (fm_rf _ _ _) (show 165 ∈ _ by decide)
          have JRLx_s36 : RLx s36 := RLx_fm fs36 (by decide) JRLx_s32
          refine z_aload_n X (x := A 179) rfl (List.Mem.head _) (zcV_v0 X E 179 (As := []) (st := []) rfl rfl rfl rfl (k_blanks G Is36 (by first | exact oq_b8e2f167 ws36_77 hps32.2.1 ws31_75 ws31_77 b28.2 hps25.2.1 | omega)) rfl (Nat.le_of_ble_eq_true rfl) (fun s37 Is37 Fs37 hps37 => ?_))
          have hps37p := hps37.1
          have Gs37 := fm_tq Fs36 Fs37 rfl rfl
          have JRLx_s37 : RLx s37 := RLx_fm Fs37 (by decide) JRLx_s36
          have ws37_73 : iI s37 73 = iI s36 73 := fm_iq Fs37 rfl
          have ws37_74 : iI s37 74 = iI s36 74 := fm_iq Fs37 rfl
          have b39 := bi_77 Is37
          have ws37_75 : iI s37 75 = iI s36 75 := fm_iq Fs37 rfl
          have ws37_79 : iI s37 79 = iI s36 79 := fm_iq Fs37 rfl
          have ws37_78 : iI s37 78 = iI s36 78 := fm_iq Fs37 rfl
          have ws37_90 : iI s37 90 = iI s36 90 := fm_iq Fs37 rfl
          have ws37_91 : iI s37 91 = iI s36 91 := fm_iq Fs37 rfl
          refine WS_pq [0, 1] (lv' := [(0, .ref (A 179)), (1, .int (Int32.ofInt x))]) rfl ?_
          have hD41 : TDF s37 := fun hz i hi => by
            have e0 : iI s37 91 = 1 := by first | (clear hps37 hps32 g24 hps17 he16 hps13 he12; omega) | (clear hps32 g24 hps17 he16 hps13 he12; omega) | omega
            have e1 : i = 0 := by first | (clear hps37 hps32 g24 hps17 he16 hps13 he12; omega) | (clear hps32 g24 hps17 he16 hps13 he12; omega) | omega
            subst e1
            rw [fm_c Fs37 (by decide), hs36]
            show 0 ≤ iC (uC s32 165 (0 : Int).toNat (Int32.ofInt e33)) 165 (0 : Int).toNat ∧ iC (uC s32 165 (0 : Int).toNat (Int32.ofInt e33)) 165 (0 : Int).toNat ≤ 127
            rw [iC_u ⟨by first | (clear hps37 hps32 g24 hps17 he16 hps13 he12; omega) | (clear hps32 g24 hps17 he16 hps13 he12; omega) | omega, by first | (clear hps37 hps32 g24 hps17 he16 hps13 he12; omega) | (clear hps32 g24 hps17 he16 hps13 he12; omega) | omega⟩]
            omega
          refine L94 ((400 - iI s37 77 + (9 - iI s37 79) : Int).toNat + 1) s37 x Is37 Gs37 JRLx_s37 hD41 (by first | exact ⟨oq_9a766fb5 g20 hps17.2.1 re16.2 he16 hps13 he12 ws9_74, oq_fe2501c1 ws37_74 ws36_74 ws32_74 ws31_74 ws25_74 ws22_74 vs21, oq_b4d295d9 ws37_75 hps25.1 ws36_75 ws32_75 ws31_75, oq_268e5a20 hps37.2 ws36_75 ws36_77 ws32_75 hps32.2.1 ws31_75 ws31_77 b28.2 hps25.2.1, oq_4f3d8471 ws37_75 hps37.2 ws36_75 ws36_77 ws32_75 hps32.2.1 ws31_75 ws31_77 b28.1 hps25.2.1, oq_3a510cc0 ws37_91 ws36_91 ws32_91 vs31, oq_86039f3f ws37_90 ws36_90 ws32_90 ws31_90 ws25_90 ws22_90 ws21_90 ws17_90 ws13_90 ws9_90, oq_70073d0e g24 b23.2 ws22_90 ws21_90 ws17_90 ws13_90 ws9_90⟩ | omega) (Nat.lt_succ_self _) ?_
          intro s40  Is40 Fs40 JRLx_s40 Qs40 hs40
          have b42 := bi_73 Is40
          have b43 := bi_74 Is40
          have b44 := bi_77 Is40
          have b45 := bi_75 Is40
          have b46 := bi_79 Is40
          have b47 := bi_78 Is40
          have b48 := bi_90 Is40
          have b49 := bi_91 Is40
          have hTDF : TDF s40 := Qs40
          refine z_aload_n X (x := A 179) rfl (List.Mem.head _) (z_aload_n X (x := A 179) rfl (List.Mem.head _) (z_getI X 179 rfl (c518_ok rfl) rfl rfl ?_))
          have b50 := bi_80 Is40
          refine s_putI X 179 rfl (c518_ok rfl) rfl rfl (by decide) rfl rfl rfl (wd_gen (fun s51 hs51 => ?_))
          have Is51 : Bd s51 := eqB hs51 (bd_I Is40 (show ((-1) : Int) ≤ (iI s40 80) ∧ (iI s40 80) ≤ 400 by first | exact ⟨b50.1, b50.2⟩ | omega) (rng_to _))
          have Fs51 := eqF hs51 (fm_I Fs40 (inl_ok (a := 76) rfl))
          have vs51 : iI s51 76 = (iI s40 80) := eqI hs51 (iI_u (rng_to _))
          have ws51_73 : iI s51 73 = iI s40 73 := eqI hs51 rfl
          have ws51_74 : iI s51 74 = iI s40 74 := eqI hs51 rfl
          have ws51_77 : iI s51 77 = iI s40 77 := eqI hs51 rfl
          have ws51_75 : iI s51 75 = iI s40 75 := eqI hs51 rfl
          have ws51_79 : iI s51 79 = iI s40 79 := eqI hs51 rfl
          have ws51_78 : iI s51 78 = iI s40 78 := eqI hs51 rfl
          have ws51_90 : iI s51 90 = iI s40 90 := eqI hs51 rfl
          have ws51_91 : iI s51 91 = iI s40 91 := eqI hs51 rfl
          have fs51 : Fm [76] [] s40 s51 := by rw [hs51]; exact fm_I (fm_rf _ _ _) (show 76 ∈ _ by decide)
          have JRLx_s51 : RLx s51 := RLx_fm fs51 (by decide) JRLx_s40
          have hTDF2 : TDF s51 := fun z => TD_fm fs51 (by decide) (hTDF (by first | (clear hps37 hps32 g24 hps17 he16 hps13 he12; omega) | (clear hps32 g24 hps17 he16 hps13 he12; omega) | omega))
          refine z_aload_n X (x := A 179) rfl (List.Mem.head _) (z_getI X 179 rfl (c518_ok rfl) rfl rfl ?_)
          have b52 := bi_79 Is51
          refine z_if_eq X (t := 146) rfl rfl (rng_to _) (fun g53 => ?_) (fun g53 => ?_)
          ·
            have JTD_s51 : TD s51 := hTDF2 (by first | (clear hps37 hps32 g24 hps17 he16 hps13 he12; omega) | (clear hps32 g24 hps17 he16 hps13 he12; omega) | omega)
            refine z_aload_n X (x := A 179) rfl (List.Mem.head _) (s_getR X 179 rfl (c518_ok rfl) rfl rfl (z_aload_n X (x := A 179) rfl (List.Mem.head _) (z_getI X 179 rfl (c518_ok rfl) rfl rfl ?_)))
            have b54 := bi_90 Is51
            refine z_aload_n X (x := A 179) rfl (List.Mem.head _) (z_getI X 179 rfl (c518_ok rfl) rfl rfl ?_)
            have b55 := bi_91 Is51
            refine z_ast X 185 rfl (c518_ok rfl) rfl (by first | exact b54.1 | omega) (show (iI s51 90) < 12 by first | exact oq_e2284db0 ws51_90 hs40.2.2.2.2.2.2.1 hs40.2.2.2.2.2.2.2 | omega) (cbig_ok rfl) (wd_gen (fun s56 hs56 => ?_))
            have Is56 : Bd s56 := eqB hs56 (bd_C Is51 (show (0 : Int) ≤ (iI s51 91) ∧ (iI s51 91) ≤ 24 by first | exact ⟨b55.1, b55.2⟩ | omega) (rng_to _))
            have Fs56 := eqF hs56 (fm_C Fs51 (inl_ok (a := 162) rfl))
            have ws56_73 : iI s56 73 = iI s51 73 := eqI hs56 rfl
            have ws56_74 : iI s56 74 = iI s51 74 := eqI hs56 rfl
            have ws56_77 : iI s56 77 = iI s51 77 := eqI hs56 rfl
            have ws56_75 : iI s56 75 = iI s51 75 := eqI hs56 rfl
            have ws56_79 : iI s56 79 = iI s51 79 := eqI hs56 rfl
            have ws56_78 : iI s56 78 = iI s51 78 := eqI hs56 rfl
            have ws56_90 : iI s56 90 = iI s51 90 := eqI hs56 rfl
            have ws56_91 : iI s56 91 = iI s51 91 := eqI hs56 rfl
            have fs56 : Fm [] [162] s51 s56 := by rw [hs56]; exact fm_C (fm_rf _ _ _) (show 162 ∈ _ by decide)
            have JTD_s56 : TD s56 := TD_fm fs56 (by decide) JTD_s51
            have es_s56 : iI s51 90 = iI s 90 := by first | (clear hps37 hps32 g24 hps17 he16 hps13 he12; omega) | (clear hps32 g24 hps17 he16 hps13 he12; omega) | omega
            have JRLx_s56 : RLx s56 := by rw [hs56]; exact RLx_m JRLx_s51 (by first | (clear hps37 hps32 g24 hps17 he16 hps13 he12; omega) | (clear hps32 g24 hps17 he16 hps13 he12; omega) | omega)
            have vm_s56 : iC s56 162 (iI s 90 : Int).toNat = iI s51 91 := by rw [hs56, es_s56, iC_u ⟨by first | (clear hps37 hps32 g24 hps17 he16 hps13 he12; omega) | (clear hps32 g24 hps17 he16 hps13 he12; omega) | omega, by first | (clear hps37 hps32 g24 hps17 he16 hps13 he12; omega) | (clear hps32 g24 hps17 he16 hps13 he12; omega) | omega⟩]
            refine z_const X rfl (z_store_n X (lv' := [(2, .int (Int32.ofInt 0)), (0, .ref (A 179)), (1, .int (Int32.ofInt x))]) rfl (by decide) (fun _ h => h) (WS_pq [1, 2, 0] (lv' := [(0, .ref (A 179)), (1, .int (Int32.ofInt x)), (2, .int (Int32.ofInt 0))]) rfl (L161 ((128 - 0 : Int).toNat + 1) s56 x 0 Is56 Fs56 JRLx_s56 ⟨JTD_s56, JRLx_s56, fun i _ h => absurd h (by first | (clear hps37 hps32 g24 hps17 he16 hps13 he12; omega) | (clear hps32 g24 hps17 he16 hps13 he12; omega) | omega)⟩ (by first | exact ⟨And.intro (hs40.1.1) (And.intro (hs40.1.2.1) (hs40.1.2.2)), oq_7fe879e0 ws56_74 ws51_74 hs40.2.1 b43.1, oq_48a46d4a ws56_91 ws51_91 hs40.2.2.2.2.2.1, oq_1aa5be9e ws56_90 es_s56, hs40.2.2.2.2.2.2.2, by decide, by decide, oq_f6b042d5 ws56_91 vm_s56⟩ | omega) (Nat.lt_succ_self _) ?_)))
            intro s57 x58 Is57 Fs57 JRLx_s57 Qs57 hs57
            have b59 := bi_73 Is57
            have b60 := bi_74 Is57
            have b61 := bi_77 Is57
            have b62 := bi_75 Is57
            have b63 := bi_79 Is57
            have b64 := bi_78 Is57
            have b65 := bi_90 Is57
            have b66 := bi_91 Is57
            refine z_const X rfl (z_store_n X (lv' := [(2, .int (Int32.ofInt 0)), (0, .ref (A 179)), (1, .int (Int32.ofInt x))]) rfl (by decide) (fun _ h => h) (WS_pq [1, 2, 0] (lv' := [(0, .ref (A 179)), (1, .int (Int32.ofInt x)), (2, .int (Int32.ofInt 0))]) rfl (L188 ((24 - 0 : Int).toNat + 1) s57 x 0 Is57 Fs57 JRLx_s57 ⟨Qs57.1, Qs57.2.1, fun i hi _ => Qs57.2.2 i hi (by first | (clear hps37 hps32 g24 hps17 he16 hps13 he12; omega) | (clear hps32 g24 hps17 he16 hps13 he12; omega) | omega)⟩ (by first | exact ⟨And.intro (hs57.1.1) (And.intro (hs57.1.2.1) (hs57.1.2.2)), hs57.2.1, hs57.2.2.1, hs57.2.2.2.1, hs57.2.2.2.2.1, by decide, by decide, hs57.2.2.2.2.2.2⟩ | omega) (Nat.lt_succ_self _) ?_)))
            intro s67 x68 Is67 Fs67 JRLx_s67 Qs67 hs67
            have b69 := bi_73 Is67
            have b70 := bi_74 Is67
            have b71 := bi_77 Is67
            have b72 := bi_75 Is67
            have b73 := bi_79 Is67
            have b74 := bi_78 Is67
            have b75 := bi_90 Is67
            have b76 := bi_91 Is67
            refine z_aload_n X (x := A 179) rfl (List.Mem.head _) (w_dup X.1 (ax_d X (show cdA 200 237 = some (.dup, 1, 0, 0, 0) from rfl)) rfl (z_getI X 179 rfl (c518_ok rfl) rfl rfl ?_))
            have b77 := bi_90 Is67
            refine z_const X rfl (z_add X rfl (s_putI X 179 rfl (c518_ok rfl) rfl rfl (by decide) rfl rfl rfl (wd_gen (fun s78 hs78 => ?_))))
            have Is78 : Bd s78 := eqB hs78 (bd_I Is67 (show (0 : Int) ≤ ((iI s67 90) + 1) ∧ ((iI s67 90) + 1) ≤ 12 by first | exact ⟨oq_54f49eb5 b77.1, oq_6a44be7e hs67.2.2.2.1 hs67.2.2.2.2.1⟩ | omega) ⟨by first | exact oq_74de1e16 b77.1 | omega, by first | exact oq_76a8a5b7 b77.2 | omega⟩)
            have Fs78 := eqF hs78 (fm_I Fs67 (inl_ok (a := 90) rfl))
            have vs78 : iI s78 90 = ((iI s67 90) + 1) := eqI hs78 (iI_u ⟨by first | exact oq_74de1e16 b77.1 | omega, by first | exact oq_76a8a5b7 b77.2 | omega⟩)
            have ws78_73 : iI s78 73 = iI s67 73 := eqI hs78 rfl
            have ws78_74 : iI s78 74 = iI s67 74 := eqI hs78 rfl
            have ws78_77 : iI s78 77 = iI s67 77 := eqI hs78 rfl
            have ws78_75 : iI s78 75 = iI s67 75 := eqI hs78 rfl
            have ws78_79 : iI s78 79 = iI s67 79 := eqI hs78 rfl
            have ws78_78 : iI s78 78 = iI s67 78 := eqI hs78 rfl
            have ws78_91 : iI s78 91 = iI s67 91 := eqI hs78 rfl
            have fs78 : Fm [90] [] s67 s78 := by rw [hs78]; exact fm_I (fm_rf _ _ _) (show 90 ∈ _ by decide)
            have JTD_s78 : TD s78 := TD_fm fs78 (by decide) Qs67.1
            have JRLx_s78 : RLx s78 := by
              rw [hs78]
              exact RLx_up Qs67.2.1 rfl (by first | (clear hps37 hps32 g24 hps17 he16 hps13 he12; omega) | (clear hps32 g24 hps17 he16 hps13 he12; omega) | omega) (by rw [show iI s67 90 = iI s 90 by first | (clear hps37 hps32 g24 hps17 he16 hps13 he12; omega) | (clear hps32 g24 hps17 he16 hps13 he12; omega) | omega]; omega) (fun i hi => by rw [show iI s67 90 = iI s 90 by first | (clear hps37 hps32 g24 hps17 he16 hps13 he12; omega) | (clear hps32 g24 hps17 he16 hps13 he12; omega) | omega]; exact Qs67.2.2 i hi (by first | (clear hps37 hps32 g24 hps17 he16 hps13 he12; omega) | (clear hps32 g24 hps17 he16 hps13 he12; omega) | omega))
            refine z_aload_n X (x := A 179) rfl (List.Mem.head _) (z_getI X 179 rfl (c518_ok rfl) rfl rfl ?_)
            have b79 := bi_90 Is78
            refine z_const X rfl (z_sub X rfl ?_)
            exact w_iret X.1 q hRt rfl (ax_d X (show cdA 200 252 = some (.ireturn, 1, 0, 0, 0) from rfl)) (Nat.zero_le _) (Nat.zero_le _) ⟨_, rfl, Is78, Fs78, JRLx_s78, ((iI s78 90) - 1), rfl, ⟨by first | exact oq_c1e961c7 b79.1 | omega, by first | exact oq_d526ebd3 b79.2 | omega⟩, by first | exact Or.inl (And.intro (hs67.1.1) (And.intro (hs67.1.2.1) (And.intro (hs67.1.2.2) (oq_333640b7 ws78_74 hs67.2.1 b70.1)))) | omega⟩
          ·
            refine z_aload_n X (x := A 179) rfl (List.Mem.head _) (z_getI X 179 rfl (c518_ok rfl) rfl rfl ?_)
            have b80 := bi_79 Is51
            refine z_bipush X rfl (z_sub X rfl ?_)
            exact w_iret X.1 q hRt rfl (ax_d X (show cdA 200 145 = some (.ireturn, 1, 0, 0, 0) from rfl)) (Nat.zero_le _) (Nat.zero_le _) ⟨_, rfl, Is51, Fs51, JRLx_s51, ((iI s51 79) - 10), rfl, ⟨by first | exact oq_d3c9ade5 b80.1 | omega, by first | exact oq_71609f9f b80.2 | omega⟩, by first | exact Or.inl (And.intro (hs40.1.1) (And.intro (hs40.1.2.1) (And.intro (hs40.1.2.2) (oq_333640b7 ws51_74 hs40.2.1 b43.1)))) | omega⟩
        ·
          refine z_const X rfl ?_
          exact w_iret X.1 q hRt rfl (ax_d X (show cdA 200 66 = some (.ireturn, 1, 0, 0, 0) from rfl)) (Nat.zero_le _) (Nat.zero_le _) ⟨_, rfl, Is22, Fs22, JRLx_s22, (-1), rfl, (by decide), by first | exact oq_6bfd7395 ws22_74 vs21 g20 hps17.2.1 re16.2 he16 hps13 he12 ws9_74 | omega⟩
      ·
        refine z_const X rfl ?_
        exact w_iret X.1 q hRt rfl (ax_d X (show cdA 200 45 = some (.ireturn, 1, 0, 0, 0) from rfl)) (Nat.zero_le _) (Nat.zero_le _) ⟨_, rfl, Is17, Gs17, JRLx_s17, 0, rfl, (by decide), by first | exact oq_122ebdda g20 ws17_74 b19.1 hps17.2.2 hps17.1 re16.1 he16 ws13_74 ws13_73 hps13 he12 ws9_74 vs9 | omega⟩
    refine z_if_ne X (t := 36) rfl rfl hrs13 (fun g81 => ?_) (fun g81 => ?_)
    ·
      exact z_const X rfl (N15 _ (Or.inl ⟨g81, rfl⟩))
    ·
      exact z_const X rfl (z_goto X (t := 37) rfl rfl (N15 _ (Or.inr (⟨g81, rfl⟩))))
  refine z_icmp_ge X (t := 24) rfl rfl (rng_to _) (by decide) (fun g82 => ?_) (fun g82 => ?_)
  ·
    exact z_bipush X rfl (N11 _ (Or.inl ⟨g82, rfl⟩))
  ·
    refine z_aload_n X (x := A 179) rfl (List.Mem.head _) (z_getI X 179 rfl (c518_ok rfl) rfl rfl ?_)
    have b83 := bi_74 Is9
    exact z_goto X (t := 26) rfl rfl (N11 _ (Or.inr (⟨g82, b83, rfl⟩)))
end M55
