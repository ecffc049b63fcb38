theorem oq_25953902 {a0 : Int} (h0 : a0 ≤ 100000) : a0 ≤ 2147483647 := by omega
theorem oq_02aa5459 {a0 : Int} (h0 : 1 ≤ a0) : 0 ≤ (a0 - 1) := by omega
theorem oq_19cb6f5b {a0 : Int} (h0 : a0 ≤ 24) : (a0 - 1) < 24 := by omega
theorem oq_f976b25c {a0 : Int} (h0 : a0 ≤ 24) : ((a0 - 1) : Int).toNat < 24 := by omega
theorem oq_51b59cde {a0 a1 : Int} (h0 : a0 = 0) (h1 : a0 ≠ 0) : a1 < 24 := by omega
theorem oq_280827c3 {a0 a1 : Int} (h0 : a0 = 0) (h1 : a0 ≠ 0) : (a1 + 1) ≤ 24 := by omega
theorem oq_3a454424 {a0 : Int} (h0 : a0 ≤ 24) : (a0 + 1) ≤ 2147483647 := by omega
theorem oq_52ebc553 {a0 a1 : Int} (h0 : a0 < a1) (h1 : a1 ≤ 100000) : (a0 + 1) ≤ 100000 := by omega
theorem oq_23ac7970 {a0 a1 : Int} (h0 : a0 = (a1 + 1)) (h1 : 0 ≤ a1) : 1 ≤ a0 := by omega
theorem oq_92ffb9c0 {a0 a1 a2 a3 a4 a5 : Int} (h0 : a0 = a1) (h1 : a1 = a2) (h2 : a2 = a3) (h3 : a3 = a4) (h4 : a5 < a4) : a5 < a0 := by omega
theorem oq_5cd70317 {a0 a1 a2 a3 : Int} (h0 : a0 = 0) (h1 : a0 ≠ 0) : (a1 ≤ (a2 + 1) ∨ a1 ≤ a3) := by omega
theorem oq_20c4b665 {a0 a1 a2 : Int} (h0 : a0 = 0) (h1 : a0 ≠ 0) : (a1 ≠ 0 → a2 ≠ 0) := by omega
theorem oq_901836cd {a0 a1 : Int} (h0 : a0 < a1) : 0 < (a1 - a0) := by omega
theorem oq_3a225677 {a0 a1 a2 a3 a4 : Int} (h0 : a0 = a1) (h1 : a1 = a2) (h2 : (a2 ≤ (a3 + 1) ∨ a2 ≤ a4)) : (a0 ≤ (a3 + 1) ∨ a0 ≤ a4) := by omega
theorem oq_238e3abb {a0 a1 : Int} (h0 : a0 = a1) (h1 : a1 = 24) : 1 ≤ a0 := by omega
theorem oq_87629038 {a0 a1 : Int} (h0 : a0 ≠ 0) (h1 : 0 ≤ a0) : (a1 ≠ 0 → a0 ≠ 0) := by omega
theorem oq_e660b027 {a0 a1 a2 a3 : Int} (h0 : a0 = a1) (h1 : a1 = a2) (h2 : a3 < a2) : a3 ≤ a0 := by omega
theorem oq_f7e8fb92 {a0 a1 : Int} (h0 : a0 = a1) (h1 : a1 ≠ 24) (h2 : a1 ≤ 24) : a0 < 24 := by omega
theorem oq_6a454d4a {a0 a1 a2 : Int} (h0 : a0 = a1) (h1 : a1 = a2) (h2 : a2 ≠ 24) (h3 : a2 ≤ 24) : (a0 + 1) ≤ 24 := by omega
theorem oq_2e74e63b {a0 a1 a2 a3 a4 a5 a6 : Int} (h0 : a0 = a1) (h1 : a1 = a2) (h2 : a2 = a3) (h3 : a3 = a4) (h4 : (a4 ≤ (a5 + 1) ∨ a4 ≤ a6)) : (a0 ≤ (a5 + 1) ∨ a0 ≤ a6) := by omega
theorem oq_67b737cd {a0 a1 a2 : Int} (h0 : a0 = 0) (h1 : (a1 ≠ 0 → a0 ≠ 0)) (h2 : 0 ≤ a1) : (a1 ≠ 0 → a2 ≠ 0) := by omega
theorem oq_0df604ad {a0 a1 a2 a3 a4 a5 : Int} (h0 : a0 ≠ 0) (h1 : 0 ≤ a0) (h2 : a0 = a1) (h3 : a1 = a2) (h4 : a2 = 0) : (a3 ≤ (a4 + 1) ∨ a3 ≤ a5) := by omega
theorem oq_48a46d4a {a0 a1 a2 : Int} (h0 : a0 = a1) (h1 : a1 = a2) (h2 : 1 ≤ a2) : 1 ≤ a0 := by omega
theorem oq_1be6e25e {a0 a1 a2 a3 a4 a5 a6 : Int} (h0 : a0 = a1) (h1 : a1 = a2) (h2 : a2 = a3) (h3 : a3 = a4) (h4 : a4 = a5) (h5 : a6 < a5) : a6 < a0 := by omega
theorem oq_25e396f8 {a0 a1 a2 a3 a4 a5 : Int} (h0 : a0 = a1) (h1 : a1 = a2) (h2 : a2 = a3) (h3 : (a3 ≤ (a4 + 1) ∨ a3 ≤ a5)) : (a0 ≤ (a4 + 1) ∨ a0 ≤ a5) := by omega
theorem oq_2c9dd992 {a0 a1 a2 a3 : Int} (h0 : a0 = a1) (h1 : a1 = a2) (h2 : a2 = a3) (h3 : 1 ≤ a3) : 1 ≤ a0 := by omega
theorem oq_7214ecee {a0 a1 a2 a3 a4 : Int} (h0 : a0 = a1) (h1 : a1 = a2) (h2 : a2 = a3) (h3 : a4 < a3) : a4 ≤ a0 := by omega
theorem oq_1f66d2f3 {a0 : Int} (h0 : a0 = (-1)) : (-2147483648) ≤ a0 := by omega
theorem oq_ffe94409 {a0 : Int} (h0 : a0 = (-1)) : a0 ≤ 2147483647 := by omega
theorem oq_3f758d8c {a0 a1 : Int} (h0 : a0 = a1) (h1 : a1 ≤ 380) : (a0 + 1) ≤ 400 := by omega
theorem oq_65183bbe {a0 a1 a2 : Int} (h0 : a0 = (a1 + 1)) (h1 : a1 = a2) (h2 : a2 ≤ 380) : a0 ≤ 390 := by omega
theorem oq_26933c77 {a0 : Int} (h0 : 4 ≤ a0) : 0 ≤ a0 := by omega
theorem oq_61b061d3 {a0 a1 a2 a3 : Int} (h0 : a0 ≤ a1) (h1 : a0 = (a2 + 1)) (h2 : a2 = a3) : a3 < a1 := by omega
theorem oq_052fd0cd {a0 a1 a2 a3 a4 a5 a6 : Int} (h0 : (a0 = a1 ∨ a0 ≤ a2)) (h1 : a2 = a3) (h2 : a1 = (a4 + 1)) (h3 : a3 = a5) (h4 : a4 = a6) : (a0 ≤ (a6 + 1) ∨ a0 ≤ a5) := by omega
theorem oq_161a6600 {a0 a1 : Int} (h0 : a0 < a1) : a0 ≤ a1 := by omega
theorem oq_752b3116 {a0 : Int} (h0 : a0 < 4) (h1 : a0 ≠ (-1)) (h2 : (-1) ≤ a0) : (0 ≤ a0 ∧ a0 ≤ 5) := by omega
theorem oq_c8410329 {a0 a1 a2 a3 a4 a5 : Int} (h0 : a0 = a1) (h1 : a1 = a2) (h2 : a2 = a3) (h3 : a3 = a4) (h4 : a4 = a5) (h5 : 1 ≤ a5) : 1 ≤ a0 := by omega
theorem oq_3f1d71b6 {a0 a1 a2 a3 a4 a5 : Int} (h0 : a0 = a1) (h1 : a1 = a2) (h2 : a3 ≤ a2) (h3 : a3 = (a4 + 1)) (h4 : a4 = a5) : a5 < a0 := by omega
theorem oq_daa08e9e {a0 a1 a2 a3 a4 a5 a6 a7 a8 : Int} (h0 : a0 = a1) (h1 : a1 = a2) (h2 : (a2 = a3 ∨ a2 ≤ a4)) (h3 : a4 = a5) (h4 : a3 = (a6 + 1)) (h5 : a5 = a7) (h6 : a6 = a8) : (a0 ≤ (a8 + 1) ∨ a0 ≤ a7) := by omega
theorem oq_34b54d29 {a0 a1 a2 a3 a4 a5 : Int} (h0 : a0 = a1) (h1 : a1 = a2) (h2 : a2 = a3) (h3 : a3 = a4) (h4 : a4 = a5) (h5 : 0 ≤ a5) : (a5 ≠ 0 → a0 ≠ 0) := by omega
theorem oq_42754aa4 {a0 a1 a2 a3 a4 a5 a6 a7 a8 : Int} (h0 : a0 ≠ 0) (h1 : a1 = a2) (h2 : ((a0 = 1 ∧ (48 ≤ a3 ∧ a3 ≤ 57)) ∨ (a0 = 0 ∧ (a3 < 48 ∨ 57 < a3)))) (h3 : a2 = a4) (h4 : ((a5 ≤ a4 ∧ a3 = (-1)) ∨ (a4 < a5 ∧ (0 ≤ a3 ∧ a3 ≤ 255)))) (h5 : a5 = a6) (h6 : a6 = a7) (h7 : a7 = a8) (h8 : a8 ≤ 200) : a1 ≤ 390 := by omega
theorem oq_09c52347 {a0 a1 a2 a3 a4 a5 a6 : Int} (h0 : a0 = a1) (h1 : a1 = a2) (h2 : a2 = a3) (h3 : a3 = a4) (h4 : a4 = a5) (h5 : a5 = a6) (h6 : 1 ≤ a6) : 1 ≤ a0 := by omega
theorem oq_7dec77c9 {a0 a1 a2 a3 a4 a5 a6 : Int} (h0 : a0 ≤ a1) (h1 : a0 = a2) (h2 : a2 = a3) (h3 : a4 ≤ a3) (h4 : a4 = (a5 + 1)) (h5 : a5 = a6) : a6 < a1 := by omega
theorem oq_bdae2018 {a0 a1 a2 a3 a4 a5 a6 a7 a8 a9 a10 a11 a12 : Int} (h0 : (a0 = a1 ∨ a0 ≤ a2)) (h1 : a3 ≠ 0) (h2 : a2 = a4) (h3 : a1 = a5) (h4 : ((a3 = 1 ∧ (48 ≤ a6 ∧ a6 ≤ 57)) ∨ (a3 = 0 ∧ (a6 < 48 ∨ 57 < a6)))) (h5 : a4 = a7) (h6 : a5 = a8) (h7 : ((a7 ≤ a8 ∧ a6 = (-1)) ∨ (a8 < a7 ∧ (0 ≤ a6 ∧ a6 ≤ 255)))) (h8 : a7 = a9) (h9 : a9 = a10) (h10 : a10 = a11) : (a0 ≤ (a12 + 1) ∨ a0 ≤ a11) := by omega
theorem oq_55f7238d {a0 a1 a2 a3 a4 a5 a6 : Int} (h0 : 0 ≤ a0) (h1 : (a1 ≠ 0 → a0 ≠ 0)) (h2 : a1 = a2) (h3 : a2 = a3) (h4 : a3 = a4) (h5 : a4 = a5) (h6 : a5 = a6) (h7 : 0 ≤ a6) : (a6 ≠ 0 → a0 ≠ 0) := by omega
theorem oq_810f36c7 {a0 a1 a2 : Int} (h0 : a0 = a1) (h1 : a1 = a2) : a0 ≤ (a2 + 1) := by omega
theorem oq_9bba7529 {a0 a1 a2 : Int} (h0 : a0 = a1) (h1 : a1 = a2) : a2 ≤ a0 := by omega
/-! The model: one move of a way -/
section M36
variable {l : Launch} {s0 : State} {D : va_G} {tys : List (ClassId × FieldType)} {a0 : Array Value} {A : Nat → Nat} {dT : Nat → ClassId} {s : PS}
theorem k_move (G : GX l s0 D tys a0 dT) (I : Bd s) (jTD : TD s) (p0 : iI s 77 ≤ 380) (p1 : 1 ≤ iI s 91) : CT l s0 D A dT 199 (rmN 199) [.ref (A 179)] s (fun o t => Bd t ∧ Fm [77, 79, 80, 91] [165] s t ∧ TD t ∧ o = .inl none ∧ ((iI t 79 ≠ 0 ∨ iI s 77 < iI t 77) ∧ (iI t 77 ≤ iI s 77 + 1 ∨ iI t 77 ≤ iI s 75) ∧ 1 ≤ iI t 91 ∧ (iI s 79 ≠ 0 → iI t 79 ≠ 0) ∧ iI s 77 ≤ iI t 77)) := by
  refine ct_of G (by decide) (Nat.le_of_ble_eq_true rfl) (fun k X E hRt hXt q => ?_)
  show WS k 0 [(0, .ref (A 179))] [] _ 0 0
  have F : Fm [77, 79, 80, 91] [165] s s := fm_rf _ _ s
  have b1 := bi_77 I
  have b2 := bi_75 I
  have b3 := bi_79 I
  have b4 := bi_91 I
  have L140 : ∀ (n : Nat) (t : PS) (lt stp tm kk : Int), Bd t → Fm [77, 79, 80, 91] [165] s t → TD t → ((0 ≤ lt ∧ lt ≤ 400) ∧ (0 ≤ stp ∧ stp ≤ 5) ∧ rng tm ∧ tm ≤ 100000 ∧ 0 ≤ kk ∧ kk ≤ 100000 ∧ 1 ≤ iI t 91 ∧ iI s 77 < iI t 77 ∧ (iI t 77 ≤ iI s 77 + 1 ∨ iI t 77 ≤ iI s 75) ∧ (iI s 79 ≠ 0 → iI t 79 ≠ 0)) → (tm - kk : Int).toNat < n → (∀ (t' : PS) (lt' stp' tm' kk' : Int), Bd t' → Fm [77, 79, 80, 91] [165] s t' → TD t' → ((0 ≤ lt' ∧ lt' ≤ 400) ∧ (0 ≤ stp' ∧ stp' ≤ 5) ∧ rng tm' ∧ tm' ≤ 100000 ∧ 0 ≤ kk' ∧ kk' ≤ 100000 ∧ 1 ≤ iI t' 91 ∧ iI s 77 < iI t' 77 ∧ (iI t' 77 ≤ iI s 77 + 1 ∨ iI t' 77 ≤ iI s 75) ∧ (iI s 79 ≠ 0 → iI t' 79 ≠ 0)) → WS k 245 [(0, .ref (A 179)), (1, .int (Int32.ofInt lt')), (3, .int (Int32.ofInt stp')), (4, .int (Int32.ofInt tm')), (5, .int (Int32.ofInt kk'))] [] (Wd A dT t') 0 0) → WS k 140 [(0, .ref (A 179)), (1, .int (Int32.ofInt lt)), (3, .int (Int32.ofInt stp)), (4, .int (Int32.ofInt tm)), (5, .int (Int32.ofInt kk))] [] (Wd A dT t) 0 0 := by
    intro n
    induction n with
    | zero =>
      intro t lt stp tm kk I F jjTD hi hm kx
      exact absurd hm (Nat.not_lt_zero _)
    | succ n ih =>
      intro t lt stp tm kk I F jjTD hi hm kx
      have b1001 := bi_77 I
      have b1002 := bi_75 I
      have b1003 := bi_79 I
      have b1004 := bi_91 I
      refine z_load X (x := kk) rfl (List.Mem.tail _ (List.Mem.tail _ (List.Mem.tail _ (List.Mem.tail _ (List.Mem.head _))))) (z_load X (x := tm) rfl (List.Mem.tail _ (List.Mem.tail _ (List.Mem.tail _ (List.Mem.head _)))) (z_icmp_ge X (t := 245) rfl rfl ⟨by first | exact oq_fa4e5087 hi.2.2.2.2.1 | omega, by first | exact oq_25953902 hi.2.2.2.2.2.1 | omega⟩ ⟨by first | exact hi.2.2.1.1 | omega, by first | exact hi.2.2.1.2 | omega⟩ (fun g1005 => ?_) (fun g1005 => ?_)))
      ·
        refine WS_pq [0, 1, 2, 3, 4] (lv' := [(0, .ref (A 179)), (1, .int (Int32.ofInt lt)), (3, .int (Int32.ofInt stp)), (4, .int (Int32.ofInt tm)), (5, .int (Int32.ofInt kk))]) rfl ?_
        exact kx _ lt stp tm kk I F jjTD (by first | exact ⟨And.intro (hi.1.1) (hi.1.2), And.intro (hi.2.1.1) (hi.2.1.2), And.intro (hi.2.2.1.1) (hi.2.2.1.2), hi.2.2.2.1, hi.2.2.2.2.1, hi.2.2.2.2.2.1, hi.2.2.2.2.2.2.1, hi.2.2.2.2.2.2.2.1, hi.2.2.2.2.2.2.2.2.1, hi.2.2.2.2.2.2.2.2.2⟩ | omega)
      ·
        refine z_aload_n X (x := A 179) rfl (List.Mem.head _) (z_getI X 179 rfl (c518_ok rfl) rfl rfl ?_)
        have b1006 := bi_79 I
        refine z_if_ne X (t := 245) rfl rfl (rng_to _) (fun g1007 => ?_) (fun g1007 => ?_)
        ·
          refine WS_pq [0, 1, 2, 3, 4] (lv' := [(0, .ref (A 179)), (1, .int (Int32.ofInt lt)), (3, .int (Int32.ofInt stp)), (4, .int (Int32.ofInt tm)), (5, .int (Int32.ofInt kk))]) rfl ?_
          exact kx _ lt stp tm kk I F jjTD (by first | exact ⟨And.intro (hi.1.1) (hi.1.2), And.intro (hi.2.1.1) (hi.2.1.2), And.intro (hi.2.2.1.1) (hi.2.2.1.2), hi.2.2.2.1, hi.2.2.2.2.1, hi.2.2.2.2.2.1, hi.2.2.2.2.2.2.1, hi.2.2.2.2.2.2.2.1, hi.2.2.2.2.2.2.2.2.1, hi.2.2.2.2.2.2.2.2.2⟩ | omega)
        ·
          refine z_aload_n X (x := A 179) rfl (List.Mem.head _) (s_getR X 179 rfl (c518_ok rfl) rfl rfl (z_aload_n X (x := A 179) rfl (List.Mem.head _) (z_getI X 179 rfl (c518_ok rfl) rfl rfl ?_)))
          have b1008 := bi_91 I
          refine z_const X rfl (z_sub X rfl ?_)
          have hT1009 := jjTD (((iI t 91) - 1) : Int).toNat (by omega)
          refine z_ald X 188 rfl (c518_ok rfl) rfl (by first | exact oq_02aa5459 hi.2.2.2.2.2.2.1 | omega) (show ((iI t 91) - 1) < 24 by first | exact oq_19cb6f5b b1008.2 | omega) (cbig_ok rfl) ?_
          have b1010 := bc_165 I (show (((iI t 91) - 1)).toNat < 24 by first | exact oq_f976b25c b1008.2 | omega)
          refine z_load_n X (x := stp) rfl (List.Mem.tail _ (List.Mem.tail _ (List.Mem.head _))) (zcS_i0 X E (As := [.int (Int32.ofInt (iC t 165 (((iI t 91) - 1)).toNat)), .int (Int32.ofInt stp)]) (st := []) rfl rfl (k_beside G I (by omega) (by first | exact ⟨hi.2.1.1, hi.2.1.2⟩ | omega)) rfl (Nat.le_of_ble_eq_true rfl) (fun s1011 e1012 Is1011 Fs1011 hrs1011 hps1011 => ?_))
          have hps1011p := And.intro hps1011.2.1 (hps1011.2.2)
          have Gs1011 := fm_tq F Fs1011 rfl rfl
          have JTD_s1011 : TD s1011 := TD_fm Fs1011 (by decide) jjTD
          have ws1011_77 : iI s1011 77 = iI t 77 := fm_iq Fs1011 rfl
          have ws1011_75 : iI s1011 75 = iI t 75 := fm_iq Fs1011 rfl
          have ws1011_79 : iI s1011 79 = iI t 79 := fm_iq Fs1011 rfl
          have ws1011_91 : iI s1011 91 = iI t 91 := fm_iq Fs1011 rfl
          refine z_store X (lv' := [(6, .int (Int32.ofInt e1012)), (0, .ref (A 179)), (1, .int (Int32.ofInt lt)), (3, .int (Int32.ofInt stp)), (4, .int (Int32.ofInt tm)), (5, .int (Int32.ofInt kk))]) rfl (by decide) (fun _ h => h) (z_load X (x := e1012) rfl (List.Mem.head _) (z_const X rfl (z_icmp_ne X (t := 186) rfl rfl hrs1011 (by decide) (fun g1013 => ?_) (fun g1013 => ?_))))
          ·
            refine z_aload_n X (x := A 179) rfl (List.Mem.tail _ (List.Mem.head _)) (z_getI X 179 rfl (c518_ok rfl) rfl rfl ?_)
            have b1014 := bi_91 Is1011
            refine z_bipush X rfl (z_icmp_eq X (t := 204) rfl rfl (rng_to _) (by decide) (fun g1015 => ?_) (fun g1015 => ?_))
            ·
              refine z_aload_n X (x := A 179) rfl (List.Mem.tail _ (List.Mem.head _)) (z_const X rfl (z_load_n X (x := lt) rfl (List.Mem.tail _ (List.Mem.tail _ (List.Mem.head _))) (zcV_v0 X E 179 (As := [.int (Int32.ofInt 4), .int (Int32.ofInt lt)]) (st := []) rfl rfl rfl rfl (k_wrong G Is1011 (by first | exact ⟨by decide, by decide⟩ | omega) (by first | exact ⟨oq_ca54ea22 hi.1.1, hi.1.2⟩ | omega)) rfl (Nat.le_of_ble_eq_true rfl) (fun s1016 Is1016 Fs1016 hps1016 => ?_))))
              have Gs1016 := fm_tq Gs1011 Fs1016 rfl rfl
              have JTD_s1016 : TD s1016 := TD_fm Fs1016 (by decide) JTD_s1011
              have ws1016_77 : iI s1016 77 = iI s1011 77 := fm_iq Fs1016 rfl
              have ws1016_75 : iI s1016 75 = iI s1011 75 := fm_iq Fs1016 rfl
              have b1018 := bi_79 Is1016
              have ws1016_91 : iI s1016 91 = iI s1011 91 := fm_iq Fs1016 rfl
              refine z_aload_n X (x := A 179) rfl (List.Mem.tail _ (List.Mem.head _)) (z_getI X 179 rfl (c518_ok rfl) rfl rfl ?_)
              have b1019 := bi_79 Is1016
              refine z_if_eq X (t := 218) rfl rfl (rng_to _) (fun g1020 => ?_) (fun g1020 => ?_)
              ·
                refine z_aload_n X (x := A 179) rfl (List.Mem.tail _ (List.Mem.head _)) (s_getR X 179 rfl (c518_ok rfl) rfl rfl (z_aload_n X (x := A 179) rfl (List.Mem.tail _ (List.Mem.head _)) (z_getI X 179 rfl (c518_ok rfl) rfl rfl ?_)))
                have b1021 := bi_91 Is1016
                refine z_load X (x := e1012) rfl (List.Mem.head _) (z_ast X 188 rfl (c518_ok rfl) rfl (by first | exact b1021.1 | omega) (show (iI s1016 91) < 24 by first | exact oq_51b59cde g1020 hps1016 | omega) (cbig_ok rfl) (wd_gen (fun s1022 hs1022 => ?_)))
                have Is1022 : Bd s1022 := eqB hs1022 (bd_C Is1016 (show ((-2147483648) : Int) ≤ e1012 ∧ e1012 ≤ 2147483647 by first | exact ⟨oq_97ee2c2a hps1011.2.1, oq_07d346ce hps1011.2.2⟩ | omega) hrs1011)
                have Fs1022 := eqF hs1022 (fm_C Gs1016 (inl_ok (a := 165) rfl))
                have ws1022_77 : iI s1022 77 = iI s1016 77 := eqI hs1022 rfl
                have ws1022_75 : iI s1022 75 = iI s1016 75 := eqI hs1022 rfl
                have ws1022_79 : iI s1022 79 = iI s1016 79 := eqI hs1022 rfl
                have ws1022_91 : iI s1022 91 = iI s1016 91 := eqI hs1022 rfl
                refine z_aload_n X (x := A 179) rfl (List.Mem.tail _ (List.Mem.head _)) (w_dup X.1 (ax_d X (show cdA 199 230 = some (.dup, 1, 0, 0, 0) from rfl)) rfl (z_getI X 179 rfl (c518_ok rfl) rfl rfl ?_))
                have b1023 := bi_91 Is1022
                refine z_const X rfl (z_add X rfl (s_putI X 179 rfl (c518_ok rfl) rfl rfl (by decide) rfl rfl rfl (wd_gen (fun s1024 hs1024 => ?_))))
                have Is1024 : Bd s1024 := eqB hs1024 (bd_I Is1022 (show (0 : Int) ≤ ((iI s1022 91) + 1) ∧ ((iI s1022 91) + 1) ≤ 24 by first | exact ⟨oq_54f49eb5 b1023.1, oq_280827c3 g1020 hps1016⟩ | omega) ⟨by first | exact oq_74de1e16 b1023.1 | omega, by first | exact oq_3a454424 b1023.2 | omega⟩)
                have Fs1024 := eqF hs1024 (fm_I Fs1022 (inl_ok (a := 91) rfl))
                have vs1024 : iI s1024 91 = ((iI s1022 91) + 1) := eqI hs1024 (iI_u ⟨by first | exact oq_74de1e16 b1023.1 | omega, by first | exact oq_3a454424 b1023.2 | omega⟩)
                have ws1024_77 : iI s1024 77 = iI s1022 77 := eqI hs1024 rfl
                have ws1024_75 : iI s1024 75 = iI s1022 75 := eqI hs1024 rfl
                have ws1024_79 : iI s1024 79 = iI s1022 79 := eqI hs1024 rfl
                have JTD_s1024 : TD s1024 := by
                  rw [hs1024, ws1022_91, hs1022]
                  exact TD_up JTD_s1016 rfl (by first | (clear hps1016 g1013 hps1011; omega) | (clear g1013 hps1011; omega) | omega) (by first | (clear hps1016 g1013 hps1011; omega) | (clear g1013 hps1011; omega) | omega)
                refine z_inc X (x := kk) (lv' := [(5, .int (Int32.ofInt (kk + 1))), (6, .int (Int32.ofInt e1012)), (0, .ref (A 179)), (1, .int (Int32.ofInt lt)), (3, .int (Int32.ofInt stp)), (4, .int (Int32.ofInt tm))]) rfl (by decide) (List.Mem.tail _ (List.Mem.tail _ (List.Mem.tail _ (List.Mem.tail _ (List.Mem.tail _ (List.Mem.head _)))))) (fun _ h => h) (z_goto X (t := 140) rfl rfl (WS_pq [2, 3, 4, 5, 0] (lv' := [(0, .ref (A 179)), (1, .int (Int32.ofInt lt)), (3, .int (Int32.ofInt stp)), (4, .int (Int32.ofInt tm)), (5, .int (Int32.ofInt (kk + 1)))]) rfl ?_))
                exact ih _ lt stp tm (kk + 1) Is1024 Fs1024 JTD_s1024 (by first | exact ⟨And.intro (hi.1.1) (hi.1.2), And.intro (hi.2.1.1) (hi.2.1.2), And.intro (hi.2.2.1.1) (hi.2.2.1.2), hi.2.2.2.1, oq_54f49eb5 hi.2.2.2.2.1, oq_52ebc553 g1005 hi.2.2.2.1, oq_23ac7970 vs1024 b1023.1, oq_92ffb9c0 ws1024_77 ws1022_77 ws1016_77 ws1011_77 hi.2.2.2.2.2.2.2.1, oq_5cd70317 g1020 hps1016, oq_20c4b665 g1020 hps1016⟩ | omega) (by first | exact qk_me hm (by decide) (oq_901836cd g1005) | omega) kx
              ·
                exact w_vret X.1 q hRt (ax_d X (show cdA 199 217 = some (.return_, 1, 0, 0, 0) from rfl)) (Nat.zero_le _) (Nat.zero_le _) ⟨_, rfl, Is1016, Gs1016, JTD_s1016, rfl, by first | exact ⟨Or.inl (g1020), oq_3a225677 ws1016_77 ws1011_77 hi.2.2.2.2.2.2.2.2.1, oq_238e3abb ws1016_91 g1015, oq_87629038 g1020 b1019.1, oq_e660b027 ws1016_77 ws1011_77 hi.2.2.2.2.2.2.2.1⟩ | omega⟩
            ·
              refine z_aload_n X (x := A 179) rfl (List.Mem.tail _ (List.Mem.head _)) (z_load X (x := e1012) rfl (List.Mem.head _) (zcV_i0 X E 179 (As := [.int (Int32.ofInt e1012)]) (st := []) rfl rfl rfl rfl (k_isTold G Is1011 (by first | exact ⟨oq_97ee2c2a hps1011.2.1, oq_07d346ce hps1011.2.2⟩ | omega)) rfl (Nat.le_of_ble_eq_true rfl) (fun s1025 e1026 Is1025 Fs1025 hrs1025 hps1025 => ?_)))
              have Gs1025 := fm_tq Gs1011 Fs1025 rfl rfl
              have JTD_s1025 : TD s1025 := TD_fm Fs1025 (by decide) JTD_s1011
              have ws1025_77 : iI s1025 77 = iI s1011 77 := fm_iq Fs1025 rfl
              have ws1025_75 : iI s1025 75 = iI s1011 75 := fm_iq Fs1025 rfl
              have ws1025_79 : iI s1025 79 = iI s1011 79 := fm_iq Fs1025 rfl
              have ws1025_91 : iI s1025 91 = iI s1011 91 := fm_iq Fs1025 rfl
              refine z_if_eq X (t := 210) rfl rfl hrs1025 (fun g1027 => ?_) (fun g1027 => ?_)
              ·
                refine z_aload_n X (x := A 179) rfl (List.Mem.tail _ (List.Mem.head _)) (z_getI X 179 rfl (c518_ok rfl) rfl rfl ?_)
                have b1028 := bi_79 Is1025
                refine z_if_eq X (t := 218) rfl rfl (rng_to _) (fun g1029 => ?_) (fun g1029 => ?_)
                ·
                  refine z_aload_n X (x := A 179) rfl (List.Mem.tail _ (List.Mem.head _)) (s_getR X 179 rfl (c518_ok rfl) rfl rfl (z_aload_n X (x := A 179) rfl (List.Mem.tail _ (List.Mem.head _)) (z_getI X 179 rfl (c518_ok rfl) rfl rfl ?_)))
                  have b1030 := bi_91 Is1025
                  refine z_load X (x := e1012) rfl (List.Mem.head _) (z_ast X 188 rfl (c518_ok rfl) rfl (by first | exact b1030.1 | omega) (show (iI s1025 91) < 24 by first | exact oq_f7e8fb92 ws1025_91 g1015 b1014.2 | omega) (cbig_ok rfl) (wd_gen (fun s1031 hs1031 => ?_)))
                  have Is1031 : Bd s1031 := eqB hs1031 (bd_C Is1025 (show ((-2147483648) : Int) ≤ e1012 ∧ e1012 ≤ 2147483647 by first | exact ⟨oq_97ee2c2a hps1011.2.1, oq_07d346ce hps1011.2.2⟩ | omega) hrs1011)
                  have Fs1031 := eqF hs1031 (fm_C Gs1025 (inl_ok (a := 165) rfl))
                  have ws1031_77 : iI s1031 77 = iI s1025 77 := eqI hs1031 rfl
                  have ws1031_75 : iI s1031 75 = iI s1025 75 := eqI hs1031 rfl
                  have ws1031_79 : iI s1031 79 = iI s1025 79 := eqI hs1031 rfl
                  have ws1031_91 : iI s1031 91 = iI s1025 91 := eqI hs1031 rfl
                  refine z_aload_n X (x := A 179) rfl (List.Mem.tail _ (List.Mem.head _)) (w_dup X.1 (ax_d X (show cdA 199 230 = some (.dup, 1, 0, 0, 0) from rfl)) rfl (z_getI X 179 rfl (c518_ok rfl) rfl rfl ?_))
                  have b1032 := bi_91 Is1031
                  refine z_const X rfl (z_add X rfl (s_putI X 179 rfl (c518_ok rfl) rfl rfl (by decide) rfl rfl rfl (wd_gen (fun s1033 hs1033 => ?_))))
                  have Is1033 : Bd s1033 := eqB hs1033 (bd_I Is1031 (show (0 : Int) ≤ ((iI s1031 91) + 1) ∧ ((iI s1031 91) + 1) ≤ 24 by first | exact ⟨oq_54f49eb5 b1032.1, oq_6a454d4a ws1031_91 ws1025_91 g1015 b1014.2⟩ | omega) ⟨by first | exact oq_74de1e16 b1032.1 | omega, by first | exact oq_3a454424 b1032.2 | omega⟩)
                  have Fs1033 := eqF hs1033 (fm_I Fs1031 (inl_ok (a := 91) rfl))
                  have vs1033 : iI s1033 91 = ((iI s1031 91) + 1) := eqI hs1033 (iI_u ⟨by first | exact oq_74de1e16 b1032.1 | omega, by first | exact oq_3a454424 b1032.2 | omega⟩)
                  have ws1033_77 : iI s1033 77 = iI s1031 77 := eqI hs1033 rfl
                  have ws1033_75 : iI s1033 75 = iI s1031 75 := eqI hs1033 rfl
                  have ws1033_79 : iI s1033 79 = iI s1031 79 := eqI hs1033 rfl
                  have JTD_s1033 : TD s1033 := by
                    rw [hs1033, ws1031_91, hs1031]
                    exact TD_up JTD_s1025 rfl (by first | (clear hps1025 g1015 g1013 hps1011; omega) | (clear g1015 g1013 hps1011; omega) | omega) (by first | (clear hps1025 g1015 g1013 hps1011; omega) | (clear g1015 g1013 hps1011; omega) | omega)
                  refine z_inc X (x := kk) (lv' := [(5, .int (Int32.ofInt (kk + 1))), (6, .int (Int32.ofInt e1012)), (0, .ref (A 179)), (1, .int (Int32.ofInt lt)), (3, .int (Int32.ofInt stp)), (4, .int (Int32.ofInt tm))]) rfl (by decide) (List.Mem.tail _ (List.Mem.tail _ (List.Mem.tail _ (List.Mem.tail _ (List.Mem.tail _ (List.Mem.head _)))))) (fun _ h => h) (z_goto X (t := 140) rfl rfl (WS_pq [2, 3, 4, 5, 0] (lv' := [(0, .ref (A 179)), (1, .int (Int32.ofInt lt)), (3, .int (Int32.ofInt stp)), (4, .int (Int32.ofInt tm)), (5, .int (Int32.ofInt (kk + 1)))]) rfl ?_))
                  exact ih _ lt stp tm (kk + 1) Is1033 Fs1033 JTD_s1033 (by first | exact ⟨And.intro (hi.1.1) (hi.1.2), And.intro (hi.2.1.1) (hi.2.1.2), And.intro (hi.2.2.1.1) (hi.2.2.1.2), hi.2.2.2.1, oq_54f49eb5 hi.2.2.2.2.1, oq_52ebc553 g1005 hi.2.2.2.1, oq_23ac7970 vs1033 b1032.1, oq_92ffb9c0 ws1033_77 ws1031_77 ws1025_77 ws1011_77 hi.2.2.2.2.2.2.2.1, oq_2e74e63b ws1033_77 ws1031_77 ws1025_77 ws1011_77 hi.2.2.2.2.2.2.2.2.1, oq_67b737cd g1007 hi.2.2.2.2.2.2.2.2.2 b3.1⟩ | omega) (by first | exact qk_me hm (by decide) (oq_901836cd g1005) | omega) kx
                ·
                  exact w_vret X.1 q hRt (ax_d X (show cdA 199 217 = some (.return_, 1, 0, 0, 0) from rfl)) (Nat.zero_le _) (Nat.zero_le _) ⟨_, rfl, Is1025, Gs1025, JTD_s1025, rfl, by first | exact ⟨Or.inl (g1029), oq_0df604ad g1029 b1028.1 ws1025_79 ws1011_79 g1007, oq_48a46d4a ws1025_91 ws1011_91 hi.2.2.2.2.2.2.1, oq_87629038 g1029 b1028.1, oq_e660b027 ws1025_77 ws1011_77 hi.2.2.2.2.2.2.2.1⟩ | omega⟩
              ·
                refine z_aload_n X (x := A 179) rfl (List.Mem.tail _ (List.Mem.head _)) (z_const X rfl (z_load_n X (x := lt) rfl (List.Mem.tail _ (List.Mem.tail _ (List.Mem.head _))) (zcV_v0 X E 179 (As := [.int (Int32.ofInt 4), .int (Int32.ofInt lt)]) (st := []) rfl rfl rfl rfl (k_wrong G Is1025 (by first | exact ⟨by decide, by decide⟩ | omega) (by first | exact ⟨oq_ca54ea22 hi.1.1, hi.1.2⟩ | omega)) rfl (Nat.le_of_ble_eq_true rfl) (fun s1034 Is1034 Fs1034 hps1034 => ?_))))
                have Gs1034 := fm_tq Gs1025 Fs1034 rfl rfl
                have JTD_s1034 : TD s1034 := TD_fm Fs1034 (by decide) JTD_s1025
                have ws1034_77 : iI s1034 77 = iI s1025 77 := fm_iq Fs1034 rfl
                have ws1034_75 : iI s1034 75 = iI s1025 75 := fm_iq Fs1034 rfl
                have b1036 := bi_79 Is1034
                have ws1034_91 : iI s1034 91 = iI s1025 91 := fm_iq Fs1034 rfl
                refine z_aload_n X (x := A 179) rfl (List.Mem.tail _ (List.Mem.head _)) (z_getI X 179 rfl (c518_ok rfl) rfl rfl ?_)
                have b1037 := bi_79 Is1034
                refine z_if_eq X (t := 218) rfl rfl (rng_to _) (fun g1038 => ?_) (fun g1038 => ?_)
                ·
                  refine z_aload_n X (x := A 179) rfl (List.Mem.tail _ (List.Mem.head _)) (s_getR X 179 rfl (c518_ok rfl) rfl rfl (z_aload_n X (x := A 179) rfl (List.Mem.tail _ (List.Mem.head _)) (z_getI X 179 rfl (c518_ok rfl) rfl rfl ?_)))
                  have b1039 := bi_91 Is1034
                  refine z_load X (x := e1012) rfl (List.Mem.head _) (z_ast X 188 rfl (c518_ok rfl) rfl (by first | exact b1039.1 | omega) (show (iI s1034 91) < 24 by first | exact oq_51b59cde g1038 hps1034 | omega) (cbig_ok rfl) (wd_gen (fun s1040 hs1040 => ?_)))
                  have Is1040 : Bd s1040 := eqB hs1040 (bd_C Is1034 (show ((-2147483648) : Int) ≤ e1012 ∧ e1012 ≤ 2147483647 by first | exact ⟨oq_97ee2c2a hps1011.2.1, oq_07d346ce hps1011.2.2⟩ | omega) hrs1011)
                  have Fs1040 := eqF hs1040 (fm_C Gs1034 (inl_ok (a := 165) rfl))
                  have ws1040_77 : iI s1040 77 = iI s1034 77 := eqI hs1040 rfl
                  have ws1040_75 : iI s1040 75 = iI s1034 75 := eqI hs1040 rfl
                  have ws1040_79 : iI s1040 79 = iI s1034 79 := eqI hs1040 rfl
                  have ws1040_91 : iI s1040 91 = iI s1034 91 := eqI hs1040 rfl
                  refine z_aload_n X (x := A 179) rfl (List.Mem.tail _ (List.Mem.head _)) (w_dup X.1 (ax_d X (show cdA 199 230 = some (.dup, 1, 0, 0, 0) from rfl)) rfl (z_getI X 179 rfl (c518_ok rfl) rfl rfl ?_))
                  have b1041 := bi_91 Is1040
                  refine z_const X rfl (z_add X rfl (s_putI X 179 rfl (c518_ok rfl) rfl rfl (by decide) rfl rfl rfl (wd_gen (fun s1042 hs1042 => ?_))))
                  have Is1042 : Bd s1042 := eqB hs1042 (bd_I Is1040 (show (0 : Int) ≤ ((iI s1040 91) + 1) ∧ ((iI s1040 91) + 1) ≤ 24 by first | exact ⟨oq_54f49eb5 b1041.1, oq_280827c3 g1038 hps1034⟩ | omega) ⟨by first | exact oq_74de1e16 b1041.1 | omega, by first | exact oq_3a454424 b1041.2 | omega⟩)
                  have Fs1042 := eqF hs1042 (fm_I Fs1040 (inl_ok (a := 91) rfl))
                  have vs1042 : iI s1042 91 = ((iI s1040 91) + 1) := eqI hs1042 (iI_u ⟨by first | exact oq_74de1e16 b1041.1 | omega, by first | exact oq_3a454424 b1041.2 | omega⟩)
                  have ws1042_77 : iI s1042 77 = iI s1040 77 := eqI hs1042 rfl
                  have ws1042_75 : iI s1042 75 = iI s1040 75 := eqI hs1042 rfl
                  have ws1042_79 : iI s1042 79 = iI s1040 79 := eqI hs1042 rfl
                  have JTD_s1042 : TD s1042 := by
                    rw [hs1042, ws1040_91, hs1040]
                    exact TD_up JTD_s1034 rfl (by first | (clear hps1034 g1027 hps1025 g1015 g1013 hps1011; omega) | (clear g1027 hps1025 g1015 g1013 hps1011; omega) | omega) (by first | (clear hps1034 g1027 hps1025 g1015 g1013 hps1011; omega) | (clear g1027 hps1025 g1015 g1013 hps1011; omega) | omega)
                  refine z_inc X (x := kk) (lv' := [(5, .int (Int32.ofInt (kk + 1))), (6, .int (Int32.ofInt e1012)), (0, .ref (A 179)), (1, .int (Int32.ofInt lt)), (3, .int (Int32.ofInt stp)), (4, .int (Int32.ofInt tm))]) rfl (by decide) (List.Mem.tail _ (List.Mem.tail _ (List.Mem.tail _ (List.Mem.tail _ (List.Mem.tail _ (List.Mem.head _)))))) (fun _ h => h) (z_goto X (t := 140) rfl rfl (WS_pq [2, 3, 4, 5, 0] (lv' := [(0, .ref (A 179)), (1, .int (Int32.ofInt lt)), (3, .int (Int32.ofInt stp)), (4, .int (Int32.ofInt tm)), (5, .int (Int32.ofInt (kk + 1)))]) rfl ?_))
                  exact ih _ lt stp tm (kk + 1) Is1042 Fs1042 JTD_s1042 (by first | exact ⟨And.intro (hi.1.1) (hi.1.2), And.intro (hi.2.1.1) (hi.2.1.2), And.intro (hi.2.2.1.1) (hi.2.2.1.2), hi.2.2.2.1, oq_54f49eb5 hi.2.2.2.2.1, oq_52ebc553 g1005 hi.2.2.2.1, oq_23ac7970 vs1042 b1041.1, oq_1be6e25e ws1042_77 ws1040_77 ws1034_77 ws1025_77 ws1011_77 hi.2.2.2.2.2.2.2.1, oq_5cd70317 g1038 hps1034, oq_20c4b665 g1038 hps1034⟩ | omega) (by first | exact qk_me hm (by decide) (oq_901836cd g1005) | omega) kx
                ·
                  exact w_vret X.1 q hRt (ax_d X (show cdA 199 217 = some (.return_, 1, 0, 0, 0) from rfl)) (Nat.zero_le _) (Nat.zero_le _) ⟨_, rfl, Is1034, Gs1034, JTD_s1034, rfl, by first | exact ⟨Or.inl (g1038), oq_25e396f8 ws1034_77 ws1025_77 ws1011_77 hi.2.2.2.2.2.2.2.2.1, oq_2c9dd992 ws1034_91 ws1025_91 ws1011_91 hi.2.2.2.2.2.2.1, oq_87629038 g1038 b1037.1, oq_7214ecee ws1034_77 ws1025_77 ws1011_77 hi.2.2.2.2.2.2.2.1⟩ | omega⟩
          ·
            refine z_aload_n X (x := A 179) rfl (List.Mem.tail _ (List.Mem.head _)) (z_const X rfl (z_load_n X (x := lt) rfl (List.Mem.tail _ (List.Mem.tail _ (List.Mem.head _))) (zcV_v0 X E 179 (As := [.int (Int32.ofInt 3), .int (Int32.ofInt lt)]) (st := []) rfl rfl rfl rfl (k_wrong G Is1011 (by first | exact ⟨by decide, by decide⟩ | omega) (by first | exact ⟨oq_ca54ea22 hi.1.1, hi.1.2⟩ | omega)) rfl (Nat.le_of_ble_eq_true rfl) (fun s1043 Is1043 Fs1043 hps1043 => ?_))))
            have Gs1043 := fm_tq Gs1011 Fs1043 rfl rfl
            have JTD_s1043 : TD s1043 := TD_fm Fs1043 (by decide) JTD_s1011
            have ws1043_77 : iI s1043 77 = iI s1011 77 := fm_iq Fs1043 rfl
            have ws1043_75 : iI s1043 75 = iI s1011 75 := fm_iq Fs1043 rfl
            have b1045 := bi_79 Is1043
            have ws1043_91 : iI s1043 91 = iI s1011 91 := fm_iq Fs1043 rfl
            refine z_goto X (t := 210) rfl rfl (z_aload_n X (x := A 179) rfl (List.Mem.tail _ (List.Mem.head _)) (z_getI X 179 rfl (c518_ok rfl) rfl rfl ?_))
            have b1046 := bi_79 Is1043
            refine z_if_eq X (t := 218) rfl rfl (rng_to _) (fun g1047 => ?_) (fun g1047 => ?_)
            ·
              refine z_aload_n X (x := A 179) rfl (List.Mem.tail _ (List.Mem.head _)) (s_getR X 179 rfl (c518_ok rfl) rfl rfl (z_aload_n X (x := A 179) rfl (List.Mem.tail _ (List.Mem.head _)) (z_getI X 179 rfl (c518_ok rfl) rfl rfl ?_)))
              have b1048 := bi_91 Is1043
              refine z_load X (x := e1012) rfl (List.Mem.head _) (z_ast X 188 rfl (c518_ok rfl) rfl (by first | exact b1048.1 | omega) (show (iI s1043 91) < 24 by first | exact oq_51b59cde g1047 hps1043 | omega) (cbig_ok rfl) (wd_gen (fun s1049 hs1049 => ?_)))
              have Is1049 : Bd s1049 := eqB hs1049 (bd_C Is1043 (show ((-2147483648) : Int) ≤ e1012 ∧ e1012 ≤ 2147483647 by first | exact ⟨oq_1f66d2f3 g1013, oq_ffe94409 g1013⟩ | omega) hrs1011)
              have Fs1049 := eqF hs1049 (fm_C Gs1043 (inl_ok (a := 165) rfl))
              have ws1049_77 : iI s1049 77 = iI s1043 77 := eqI hs1049 rfl
              have ws1049_75 : iI s1049 75 = iI s1043 75 := eqI hs1049 rfl
              have ws1049_79 : iI s1049 79 = iI s1043 79 := eqI hs1049 rfl
              have ws1049_91 : iI s1049 91 = iI s1043 91 := eqI hs1049 rfl
              refine z_aload_n X (x := A 179) rfl (List.Mem.tail _ (List.Mem.head _)) (w_dup X.1 (ax_d X (show cdA 199 230 = some (.dup, 1, 0, 0, 0) from rfl)) rfl (z_getI X 179 rfl (c518_ok rfl) rfl rfl ?_))
              have b1050 := bi_91 Is1049
              refine z_const X rfl (z_add X rfl (s_putI X 179 rfl (c518_ok rfl) rfl rfl (by decide) rfl rfl rfl (wd_gen (fun s1051 hs1051 => ?_))))
              have Is1051 : Bd s1051 := eqB hs1051 (bd_I Is1049 (show (0 : Int) ≤ ((iI s1049 91) + 1) ∧ ((iI s1049 91) + 1) ≤ 24 by first | exact ⟨oq_54f49eb5 b1050.1, oq_280827c3 g1047 hps1043⟩ | omega) ⟨by first | exact oq_74de1e16 b1050.1 | omega, by first | exact oq_3a454424 b1050.2 | omega⟩)
              have Fs1051 := eqF hs1051 (fm_I Fs1049 (inl_ok (a := 91) rfl))
              have vs1051 : iI s1051 91 = ((iI s1049 91) + 1) := eqI hs1051 (iI_u ⟨by first | exact oq_74de1e16 b1050.1 | omega, by first | exact oq_3a454424 b1050.2 | omega⟩)
              have ws1051_77 : iI s1051 77 = iI s1049 77 := eqI hs1051 rfl
              have ws1051_75 : iI s1051 75 = iI s1049 75 := eqI hs1051 rfl
              have ws1051_79 : iI s1051 79 = iI s1049 79 := eqI hs1051 rfl
              have JTD_s1051 : TD s1051 := by
                rw [hs1051, ws1049_91, hs1049]
                exact TD_up JTD_s1043 rfl (by first | (clear hps1043 hps1011; omega) | (clear hps1011; omega) | omega) (by first | (clear hps1043 hps1011; omega) | (clear hps1011; omega) | omega)
              refine z_inc X (x := kk) (lv' := [(5, .int (Int32.ofInt (kk + 1))), (6, .int (Int32.ofInt e1012)), (0, .ref (A 179)), (1, .int (Int32.ofInt lt)), (3, .int (Int32.ofInt stp)), (4, .int (Int32.ofInt tm))]) rfl (by decide) (List.Mem.tail _ (List.Mem.tail _ (List.Mem.tail _ (List.Mem.tail _ (List.Mem.tail _ (List.Mem.head _)))))) (fun _ h => h) (z_goto X (t := 140) rfl rfl (WS_pq [2, 3, 4, 5, 0] (lv' := [(0, .ref (A 179)), (1, .int (Int32.ofInt lt)), (3, .int (Int32.ofInt stp)), (4, .int (Int32.ofInt tm)), (5, .int (Int32.ofInt (kk + 1)))]) rfl ?_))
              exact ih _ lt stp tm (kk + 1) Is1051 Fs1051 JTD_s1051 (by first | exact ⟨And.intro (hi.1.1) (hi.1.2), And.intro (hi.2.1.1) (hi.2.1.2), And.intro (hi.2.2.1.1) (hi.2.2.1.2), hi.2.2.2.1, oq_54f49eb5 hi.2.2.2.2.1, oq_52ebc553 g1005 hi.2.2.2.1, oq_23ac7970 vs1051 b1050.1, oq_92ffb9c0 ws1051_77 ws1049_77 ws1043_77 ws1011_77 hi.2.2.2.2.2.2.2.1, oq_5cd70317 g1047 hps1043, oq_20c4b665 g1047 hps1043⟩ | omega) (by first | exact qk_me hm (by decide) (oq_901836cd g1005) | omega) kx
            ·
              exact w_vret X.1 q hRt (ax_d X (show cdA 199 217 = some (.return_, 1, 0, 0, 0) from rfl)) (Nat.zero_le _) (Nat.zero_le _) ⟨_, rfl, Is1043, Gs1043, JTD_s1043, rfl, by first | exact ⟨Or.inl (g1047), oq_3a225677 ws1043_77 ws1011_77 hi.2.2.2.2.2.2.2.2.1, oq_48a46d4a ws1043_91 ws1011_91 hi.2.2.2.2.2.2.1, oq_87629038 g1047 b1046.1, oq_e660b027 ws1043_77 ws1011_77 hi.2.2.2.2.2.2.2.1⟩ | omega⟩
  refine z_aload_n X (x := A 179) rfl (List.Mem.head _) (z_getI X 179 rfl (c518_ok rfl) rfl rfl ?_)
  have b5 := bi_77 I
  refine z_store_n X (lv' := [(1, .int (Int32.ofInt (iI s 77))), (0, .ref (A 179))]) rfl (by decide) (fun _ h => h) (z_aload_n X (x := A 179) rfl (List.Mem.tail _ (List.Mem.head _)) (z_aload_n X (x := A 179) rfl (List.Mem.tail _ (List.Mem.head _)) (z_getI X 179 rfl (c518_ok rfl) rfl rfl ?_)))
  have b6 := bi_77 I
  refine zcV_i0 X E 179 (As := [.int (Int32.ofInt (iI s 77))]) (st := []) rfl rfl rfl rfl (k_byteAt G I (by first | exact ⟨b6.1, oq_5a8480eb b6.2⟩ | omega)) rfl (Nat.le_of_ble_eq_true rfl) (fun s7 e8 Is7 Fs7 hrs7 hps7 => ?_)
  have Gs7 := fm_tq F Fs7 rfl rfl
  have JTD_s7 : TD s7 := TD_fm Fs7 (by decide) jTD
  have ws7_77 : iI s7 77 = iI s 77 := fm_iq Fs7 rfl
  have ws7_75 : iI s7 75 = iI s 75 := fm_iq Fs7 rfl
  have ws7_79 : iI s7 79 = iI s 79 := fm_iq Fs7 rfl
  have ws7_91 : iI s7 91 = iI s 91 := fm_iq Fs7 rfl
  refine z_store_n X (lv' := [(2, .int (Int32.ofInt e8)), (1, .int (Int32.ofInt (iI s 77))), (0, .ref (A 179))]) rfl (by decide) (fun _ h => h) (z_load_n X (x := e8) rfl (List.Mem.head _) (z_bipush X rfl ?_))
  have N9 : ∀ e10 : Int, ((-1) ≤ e10 ∧ e10 ≤ 5) → WS k 75 [(2, .int (Int32.ofInt e8)), (1, .int (Int32.ofInt (iI s 77))), (0, .ref (A 179))] [.int (Int32.ofInt e10)] (Wd A dT s7) 0 0 := by
    intro e10 he10
    refine z_store_n X (lv' := [(3, .int (Int32.ofInt e10)), (2, .int (Int32.ofInt e8)), (1, .int (Int32.ofInt (iI s 77))), (0, .ref (A 179))]) rfl (by decide) (fun _ h => h) (z_load_n X (x := e10) rfl (List.Mem.head _) (z_const X rfl (z_icmp_ne X (t := 91) rfl rfl ⟨by first | exact oq_97ee2c2a he10.1 | omega, by first | exact oq_a3dd55e5 he10.2 | omega⟩ (by decide) (fun g11 => ?_) (fun g11 => ?_))))
    ·
      refine z_aload_n X (x := A 179) rfl (List.Mem.tail _ (List.Mem.tail _ (List.Mem.tail _ (List.Mem.head _)))) (w_dup X.1 (ax_d X (show cdA 199 92 = some (.dup, 1, 0, 0, 0) from rfl)) rfl (z_getI X 179 rfl (c518_ok rfl) rfl rfl ?_))
      have b12 := bi_77 Is7
      refine z_const X rfl (z_add X rfl (s_putI X 179 rfl (c518_ok rfl) rfl rfl (by decide) rfl rfl rfl (wd_gen (fun s13 hs13 => ?_))))
      have Is13 : Bd s13 := eqB hs13 (bd_I Is7 (show (0 : Int) ≤ ((iI s7 77) + 1) ∧ ((iI s7 77) + 1) ≤ 400 by first | exact ⟨oq_54f49eb5 b12.1, oq_3f758d8c ws7_77 p0⟩ | omega) ⟨by first | exact oq_74de1e16 b12.1 | omega, by first | exact oq_964ce197 b12.2 | omega⟩)
      have Fs13 := eqF hs13 (fm_I Gs7 (inl_ok (a := 77) rfl))
      have vs13 : iI s13 77 = ((iI s7 77) + 1) := eqI hs13 (iI_u ⟨by first | exact oq_74de1e16 b12.1 | omega, by first | exact oq_964ce197 b12.2 | omega⟩)
      have ws13_75 : iI s13 75 = iI s7 75 := eqI hs13 rfl
      have ws13_79 : iI s13 79 = iI s7 79 := eqI hs13 rfl
      have ws13_91 : iI s13 91 = iI s7 91 := eqI hs13 rfl
      have fs13 : Fm [77] [] s7 s13 := by rw [hs13]; exact fm_I (fm_rf _ _ _) (show 77 ∈ _ by decide)
      have JTD_s13 : TD s13 := TD_fm fs13 (by decide) JTD_s7
      refine z_aload_n X (x := A 179) rfl (List.Mem.tail _ (List.Mem.tail _ (List.Mem.tail _ (List.Mem.head _)))) (zcV_v0 X E 179 (As := []) (st := []) rfl rfl rfl rfl (k_blanks G Is13 (by first | exact oq_65183bbe vs13 ws7_77 p0 | omega)) rfl (Nat.le_of_ble_eq_true rfl) (fun s14 Is14 Fs14 hps14 => ?_))
      have hps14p := hps14.1
      have Gs14 := fm_tq Fs13 Fs14 rfl rfl
      have JTD_s14 : TD s14 := TD_fm Fs14 (by decide) JTD_s13
      have b16 := bi_77 Is14
      have ws14_75 : iI s14 75 = iI s13 75 := fm_iq Fs14 rfl
      have ws14_79 : iI s14 79 = iI s13 79 := fm_iq Fs14 rfl
      have ws14_91 : iI s14 91 = iI s13 91 := fm_iq Fs14 rfl
      refine z_load_n X (x := e10) rfl (List.Mem.head _) (z_const X rfl (z_icmp_ge X (t := 134) rfl rfl ⟨by first | exact oq_97ee2c2a he10.1 | omega, by first | exact oq_a3dd55e5 he10.2 | omega⟩ (by decide) (fun g17 => ?_) (fun g17 => ?_)))
      ·
        refine z_const X rfl (z_store X (lv' := [(4, .int (Int32.ofInt 1)), (3, .int (Int32.ofInt e10)), (2, .int (Int32.ofInt e8)), (1, .int (Int32.ofInt (iI s 77))), (0, .ref (A 179))]) rfl (by decide) (fun _ h => h) (z_const X rfl (z_store X (lv' := [(5, .int (Int32.ofInt 0)), (4, .int (Int32.ofInt 1)), (3, .int (Int32.ofInt e10)), (2, .int (Int32.ofInt e8)), (1, .int (Int32.ofInt (iI s 77))), (0, .ref (A 179))]) rfl (by decide) (fun _ h => h) (WS_pq [5, 4, 2, 1, 0] (lv' := [(0, .ref (A 179)), (1, .int (Int32.ofInt (iI s 77))), (3, .int (Int32.ofInt e10)), (4, .int (Int32.ofInt 1)), (5, .int (Int32.ofInt 0))]) rfl (L140 ((1 - 0 : Int).toNat + 1) s14 (iI s 77) e10 1 0 Is14 Gs14 JTD_s14 (by first | exact ⟨And.intro (b6.1) (b6.2), And.intro (oq_26933c77 g17) (he10.2), And.intro (by decide) (by decide), by decide, by decide, by decide, oq_2c9dd992 ws14_91 ws13_91 ws7_91 p1, oq_61b061d3 hps14.1 vs13 ws7_77, oq_052fd0cd hps14.2 ws13_75 vs13 ws7_75 ws7_77, oq_00dd204b ws14_79 ws13_79 ws7_79 b3.1⟩ | omega) (Nat.lt_succ_self _) ?_)))))
        intro s18 x19 x20 x21 x22 Is18 Fs18 JTD_s18 hs18
        have b23 := bi_77 Is18
        have b24 := bi_75 Is18
        have b25 := bi_79 Is18
        have b26 := bi_91 Is18
        exact w_vret X.1 q hRt (ax_d X (show cdA 199 245 = some (.return_, 1, 0, 0, 0) from rfl)) (Nat.zero_le _) (Nat.zero_le _) ⟨_, rfl, Is18, Fs18, JTD_s18, rfl, by first | exact ⟨Or.inr (hs18.2.2.2.2.2.2.2.1), hs18.2.2.2.2.2.2.2.2.1, hs18.2.2.2.2.2.2.1, hs18.2.2.2.2.2.2.2.2.2, oq_161a6600 hs18.2.2.2.2.2.2.2.1⟩ | omega⟩
      ·
        refine z_aload_n X (x := A 179) rfl (List.Mem.tail _ (List.Mem.tail _ (List.Mem.tail _ (List.Mem.head _)))) (z_aload_n X (x := A 179) rfl (List.Mem.tail _ (List.Mem.tail _ (List.Mem.tail _ (List.Mem.head _)))) (z_getI X 179 rfl (c518_ok rfl) rfl rfl ?_))
        have b27 := bi_77 Is14
        refine zcV_i0 X E 179 (As := [.int (Int32.ofInt (iI s14 77))]) (st := []) rfl rfl rfl rfl (k_byteAt G Is14 (by first | exact ⟨b27.1, oq_5a8480eb b27.2⟩ | omega)) rfl (Nat.le_of_ble_eq_true rfl) (fun s28 e29 Is28 Fs28 hrs28 hps28 => ?_)
        have Gs28 := fm_tq Gs14 Fs28 rfl rfl
        have JTD_s28 : TD s28 := TD_fm Fs28 (by decide) JTD_s14
        have ws28_77 : iI s28 77 = iI s14 77 := fm_iq Fs28 rfl
        have ws28_75 : iI s28 75 = iI s14 75 := fm_iq Fs28 rfl
        have ws28_79 : iI s28 79 = iI s14 79 := fm_iq Fs28 rfl
        have ws28_91 : iI s28 91 = iI s14 91 := fm_iq Fs28 rfl
        refine zcS_i0 X E (As := [.int (Int32.ofInt e29)]) (st := []) rfl rfl (k_isDigit G Is28 (by first | exact ⟨oq_49a74586 hps28, oq_203e18b3 hps28⟩ | omega)) rfl (Nat.le_of_ble_eq_true rfl) (fun s30 e31 Is30 Fs30 hrs30 hps30 => ?_)
        have Gs30 := fm_tq Gs28 Fs30 rfl rfl
        have JTD_s30 : TD s30 := TD_fm Fs30 (by decide) JTD_s28
        have ws30_77 : iI s30 77 = iI s28 77 := fm_iq Fs30 rfl
        have ws30_75 : iI s30 75 = iI s28 75 := fm_iq Fs30 rfl
        have ws30_79 : iI s30 79 = iI s28 79 := fm_iq Fs30 rfl
        have ws30_91 : iI s30 91 = iI s28 91 := fm_iq Fs30 rfl
        refine z_if_eq X (t := 134) rfl rfl hrs30 (fun g32 => ?_) (fun g32 => ?_)
        ·
          refine z_const X rfl (z_store X (lv' := [(4, .int (Int32.ofInt 1)), (3, .int (Int32.ofInt e10)), (2, .int (Int32.ofInt e8)), (1, .int (Int32.ofInt (iI s 77))), (0, .ref (A 179))]) rfl (by decide) (fun _ h => h) (z_const X rfl (z_store X (lv' := [(5, .int (Int32.ofInt 0)), (4, .int (Int32.ofInt 1)), (3, .int (Int32.ofInt e10)), (2, .int (Int32.ofInt e8)), (1, .int (Int32.ofInt (iI s 77))), (0, .ref (A 179))]) rfl (by decide) (fun _ h => h) (WS_pq [5, 4, 2, 1, 0] (lv' := [(0, .ref (A 179)), (1, .int (Int32.ofInt (iI s 77))), (3, .int (Int32.ofInt e10)), (4, .int (Int32.ofInt 1)), (5, .int (Int32.ofInt 0))]) rfl (L140 ((1 - 0 : Int).toNat + 1) s30 (iI s 77) e10 1 0 Is30 Gs30 JTD_s30 (by first | exact ⟨And.intro (b6.1) (b6.2), oq_752b3116 g17 g11 he10.1, And.intro (by decide) (by decide), by decide, by decide, by decide, oq_c8410329 ws30_91 ws28_91 ws14_91 ws13_91 ws7_91 p1, oq_3f1d71b6 ws30_77 ws28_77 hps14.1 vs13 ws7_77, oq_daa08e9e ws30_77 ws28_77 hps14.2 ws13_75 vs13 ws7_75 ws7_77, oq_34b54d29 ws30_79 ws28_79 ws14_79 ws13_79 ws7_79 b3.1⟩ | omega) (Nat.lt_succ_self _) ?_)))))
          intro s33 x34 x35 x36 x37 Is33 Fs33 JTD_s33 hs33
          have b38 := bi_77 Is33
          have b39 := bi_75 Is33
          have b40 := bi_79 Is33
          have b41 := bi_91 Is33
          exact w_vret X.1 q hRt (ax_d X (show cdA 199 245 = some (.return_, 1, 0, 0, 0) from rfl)) (Nat.zero_le _) (Nat.zero_le _) ⟨_, rfl, Is33, Fs33, JTD_s33, rfl, by first | exact ⟨Or.inr (hs33.2.2.2.2.2.2.2.1), hs33.2.2.2.2.2.2.2.2.1, hs33.2.2.2.2.2.2.1, hs33.2.2.2.2.2.2.2.2.2, oq_161a6600 hs33.2.2.2.2.2.2.2.1⟩ | omega⟩
        ·
          refine z_aload_n X (x := A 179) rfl (List.Mem.tail _ (List.Mem.tail _ (List.Mem.tail _ (List.Mem.head _)))) (z_const X rfl (z_bipush X rfl (zcV_i0 X E 179 (As := [.int (Int32.ofInt 1), .int (Int32.ofInt 7)]) (st := []) rfl rfl rfl rfl (k_number G Is30 (by first | exact ⟨by decide, by decide⟩ | omega) (by first | exact ⟨by decide, by decide⟩ | omega) (by first | exact oq_42754aa4 g32 ws30_77 hps30 ws28_77 hps28 ws14_75 ws13_75 ws7_75 b2.2 | omega)) rfl (Nat.le_of_ble_eq_true rfl) (fun s42 e43 Is42 Fs42 hrs42 hps42 => ?_))))
          have hps42p := And.intro hps42.1 (hps42.2.2.2.2)
          have Gs42 := fm_tq Gs30 Fs42 rfl rfl
          have JTD_s42 : TD s42 := TD_fm Fs42 (by decide) JTD_s30
          have b44 := bi_77 Is42
          have ws42_75 : iI s42 75 = iI s30 75 := fm_iq Fs42 rfl
          have b45 := bi_79 Is42
          have ws42_91 : iI s42 91 = iI s30 91 := fm_iq Fs42 rfl
          refine z_goto X (t := 135) rfl rfl (z_store X (lv' := [(4, .int (Int32.ofInt e43)), (3, .int (Int32.ofInt e10)), (2, .int (Int32.ofInt e8)), (1, .int (Int32.ofInt (iI s 77))), (0, .ref (A 179))]) rfl (by decide) (fun _ h => h) (z_const X rfl (z_store X (lv' := [(5, .int (Int32.ofInt 0)), (4, .int (Int32.ofInt e43)), (3, .int (Int32.ofInt e10)), (2, .int (Int32.ofInt e8)), (1, .int (Int32.ofInt (iI s 77))), (0, .ref (A 179))]) rfl (by decide) (fun _ h => h) (WS_pq [5, 4, 2, 1, 0] (lv' := [(0, .ref (A 179)), (1, .int (Int32.ofInt (iI s 77))), (3, .int (Int32.ofInt e10)), (4, .int (Int32.ofInt e43)), (5, .int (Int32.ofInt 0))]) rfl (L140 ((e43 - 0 : Int).toNat + 1) s42 (iI s 77) e10 e43 0 Is42 Gs42 JTD_s42 (by first | exact ⟨And.intro (b6.1) (b6.2), oq_752b3116 g17 g11 he10.1, by first | (clear hps42 g32 hps30 hps28 hps14 g11 hps7; omega) | (clear g32 hps30 hps28 hps14 g11 hps7; omega) | omega, hps42.2.2.2.2, by decide, by decide, oq_09c52347 ws42_91 ws30_91 ws28_91 ws14_91 ws13_91 ws7_91 p1, oq_7dec77c9 hps42.1 ws30_77 ws28_77 hps14.1 vs13 ws7_77, oq_bdae2018 hps42.2.1 g32 ws30_75 ws30_77 hps30 ws28_75 ws28_77 hps28 ws14_75 ws13_75 ws7_75, oq_55f7238d b45.1 hps42.2.2.1 ws30_79 ws28_79 ws14_79 ws13_79 ws7_79 b3.1⟩ | omega) (Nat.lt_succ_self _) ?_)))))
          intro s46 x47 x48 x49 x50 Is46 Fs46 JTD_s46 hs46
          have b51 := bi_77 Is46
          have b52 := bi_75 Is46
          have b53 := bi_79 Is46
          have b54 := bi_91 Is46
          exact w_vret X.1 q hRt (ax_d X (show cdA 199 245 = some (.return_, 1, 0, 0, 0) from rfl)) (Nat.zero_le _) (Nat.zero_le _) ⟨_, rfl, Is46, Fs46, JTD_s46, rfl, by first | exact ⟨Or.inr (hs46.2.2.2.2.2.2.2.1), hs46.2.2.2.2.2.2.2.2.1, hs46.2.2.2.2.2.2.1, hs46.2.2.2.2.2.2.2.2.2, oq_161a6600 hs46.2.2.2.2.2.2.2.1⟩ | omega⟩
    ·
      refine z_aload_n X (x := A 179) rfl (List.Mem.tail _ (List.Mem.tail _ (List.Mem.tail _ (List.Mem.head _)))) (z_const X rfl (z_aload_n X (x := A 179) rfl (List.Mem.tail _ (List.Mem.tail _ (List.Mem.tail _ (List.Mem.head _)))) (z_getI X 179 rfl (c518_ok rfl) rfl rfl ?_)))
      have b55 := bi_77 Is7
      refine zcV_v0 X E 179 (As := [.int (Int32.ofInt 1), .int (Int32.ofInt (iI s7 77))]) (st := []) rfl rfl rfl rfl (k_wrong G Is7 (by first | exact ⟨by decide, by decide⟩ | omega) (by first | exact ⟨oq_ca54ea22 b55.1, b55.2⟩ | omega)) rfl (Nat.le_of_ble_eq_true rfl) (fun s56 Is56 Fs56 hps56 => ?_)
      have Gs56 := fm_tq Gs7 Fs56 rfl rfl
      have JTD_s56 : TD s56 := TD_fm Fs56 (by decide) JTD_s7
      have ws56_77 : iI s56 77 = iI s7 77 := fm_iq Fs56 rfl
      have ws56_75 : iI s56 75 = iI s7 75 := fm_iq Fs56 rfl
      have b58 := bi_79 Is56
      have ws56_91 : iI s56 91 = iI s7 91 := fm_iq Fs56 rfl
      exact w_vret X.1 q hRt (ax_d X (show cdA 199 90 = some (.return_, 1, 0, 0, 0) from rfl)) (Nat.zero_le _) (Nat.zero_le _) ⟨_, rfl, Is56, Gs56, JTD_s56, rfl, by first | exact ⟨Or.inl (hps56), Or.inl (oq_810f36c7 ws56_77 ws7_77), oq_48a46d4a ws56_91 ws7_91 p1, oq_5071f1ab b58.1 hps56, oq_9bba7529 ws56_77 ws7_77⟩ | omega⟩
  refine z_icmp_ne X (t := 24) rfl rfl hrs7 (by decide) (fun g59 => ?_) (fun g59 => ?_)
  ·
    refine z_load_n X (x := e8) rfl (List.Mem.head _) (z_bipush X rfl (z_icmp_ne X (t := 34) rfl rfl hrs7 (by decide) (fun g60 => ?_) (fun g60 => ?_)))
    ·
      refine z_load_n X (x := e8) rfl (List.Mem.head _) (z_bipush X rfl (z_icmp_ne X (t := 44) rfl rfl hrs7 (by decide) (fun g61 => ?_) (fun g61 => ?_)))
      ·
        refine z_load_n X (x := e8) rfl (List.Mem.head _) (z_bipush X rfl (z_icmp_ne X (t := 54) rfl rfl hrs7 (by decide) (fun g62 => ?_) (fun g62 => ?_)))
        ·
          refine z_load_n X (x := e8) rfl (List.Mem.head _) (z_bipush X rfl (z_icmp_ne X (t := 64) rfl rfl hrs7 (by decide) (fun g63 => ?_) (fun g63 => ?_)))
          ·
            refine z_load_n X (x := e8) rfl (List.Mem.head _) (z_bipush X rfl (z_icmp_ne X (t := 74) rfl rfl hrs7 (by decide) (fun g64 => ?_) (fun g64 => ?_)))
            ·
              refine z_const X rfl ?_
              exact N9 _ (by first | (clear g64 g63 g62 g61 g60 g59 hps7; omega) | (clear g63 g62 g61 g60 g59 hps7; omega) | omega)
            ·
              refine z_const X rfl (z_goto X (t := 75) rfl rfl ?_)
              exact N9 _ (by first | (clear g63 g62 g61 g60 g59 hps7; omega) | (clear g62 g61 g60 g59 hps7; omega) | omega)
          ·
            refine z_const X rfl (z_goto X (t := 75) rfl rfl ?_)
            exact N9 _ (by first | (clear g62 g61 g60 g59 hps7; omega) | (clear g61 g60 g59 hps7; omega) | omega)
        ·
          refine z_const X rfl (z_goto X (t := 75) rfl rfl ?_)
          exact N9 _ (by first | (clear g61 g60 g59 hps7; omega) | (clear g60 g59 hps7; omega) | omega)
      ·
        refine z_const X rfl (z_goto X (t := 75) rfl rfl ?_)
        exact N9 _ (by first | (clear g60 g59 hps7; omega) | (clear g59 hps7; omega) | omega)
    ·
      refine z_const X rfl (z_goto X (t := 75) rfl rfl ?_)
      exact N9 _ (by first | (clear g59 hps7; omega) | (clear hps7; omega) | omega)
  ·
    refine z_const X rfl (z_goto X (t := 75) rfl rfl ?_)
    exact N9 _ (by first | (clear hps7; omega) | omega)
end M36
