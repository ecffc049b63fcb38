theorem oq_09bb1bf4 {a0 : Int} (h0 : 0 ≤ a0) : (-2147483648) ≤ (a0 * 60) := by omega
theorem oq_daf99d9c {a0 : Int} (h0 : a0 ≤ 50) : (a0 * 60) ≤ 2147483647 := by omega
theorem oq_64fb5450 {a0 : Int} (h0 : 0 ≤ a0) : 0 ≤ (a0 * 60) := by omega
theorem oq_f85c0b9a {a0 : Int} (h0 : a0 ≤ 50) : (a0 * 60) ≤ 3000 := by omega
theorem oq_5e667f62 {a0 : Int} (h0 : a0 ≠ 2) (h1 : a0 ≠ 1) (h2 : a0 ≤ 3) (h3 : 1 ≤ a0) : a0 = 3 := by omega
theorem oq_0926c754 {a0 : Int} (h0 : 0 ≤ a0) : (-2147483648) ≤ (a0 * 15) := by omega
theorem oq_2c5ca475 {a0 : Int} (h0 : a0 ≤ 50) : (a0 * 15) ≤ 2147483647 := by omega
theorem oq_f86a6cbe {a0 : Int} (h0 : 0 ≤ a0) : 0 ≤ (a0 * 15) := by omega
theorem oq_294476f4 {a0 : Int} (h0 : a0 ≤ 50) : (a0 * 15) ≤ 3000 := by omega
/-! Mends: model, minutes, loads of the mended -/
def MDL (U : AirD) (s : PS) : Prop := (iI s 90 = (uN U : Int) ∧ uN U ≤ 12) ∧ (∀ x, x < uN U → WOK ((uW U).1 x) ((uW U).2 x)) ∧ LDM (uL U) s
/-- no piece is full: the model's -/
def fitQ (U : AirD) (mo : Nat → Int) (f lim : Nat → Int) (c : Int) : Prop := ∀ p : Nat, (p : Int) < c → presF f p → (uL U (nmH (pcS f (p : Int)) (uW U) mo (uN U) 1)).toInt ≤ lim p
theorem fitq_up {U : AirD} {mo f lim : Nat → Int} {c : Int} (h : fitQ U mo f lim c) (c0 : 0 ≤ c) (g : presF f c.toNat → (uL U (nmH (pcS f ((c.toNat : Nat) : Int)) (uW U) mo (uN U) 1)).toInt ≤ lim c.toNat) : fitQ U mo f lim (c + 1) := fun p hp w => by
  by_cases z : p = c.toNat
  · rw [z] at w ⊢; exact g w
  · exact h p (by omega) w
theorem MDL_fm {U : AirD} {L M : List Nat} {s t : PS} (F : Fm L M s t) (h : 90 ∉ L ∧ 85 ∉ L ∧ 82 ∉ L ∧ 158 ∉ M) (r : MDL U s) : MDL U t := ⟨⟨(fm_i F h.1).trans r.1.1, r.1.2⟩, r.2.1, LDM_fm F h.2 r.2.2⟩
theorem ins_f9 {L M : List Nat} {s t : PS} (F : Fm L M s t) (h : 230 ∉ M) : inS t = inS s := funext (fun c => propext (by unfold inS; rw [fm_c F h]))
theorem fitq_n {U : AirD} {mo f lim : Nat → Int} {p : Nat} {e : Int} (hp : p < 8) (w : HCE (pcS f (p : Int)) 1) (he : e = (uL U (nmH (pcS f (p : Int)) (uW U) mo (uN U) 1)).toInt) (hl : lim p < e) : ¬ fitQ U mo f lim 8 := fun n => by
  have z := n p (by omega) (w.elim (fun z => z.2) (fun z => absurd z.1 (by decide)))
  omega
section M87la
variable {l : Launch} {s0 : State} {D : va_G} {tys : List (ClassId × FieldType)} {a0 : Array Value} {A : Nat → Nat} {dT : Nat → ClassId} {s : PS}
set_option maxRecDepth 4000 in
theorem k_minutes9 (G : GX l s0 D tys a0 dT) {U : AirD} (I : Bd s) (jMDJ : MDJ U s) {x y z : Int} (p0 : 0 ≤ x ∧ x < iI s 90) (p1 : 1 ≤ y ∧ y ≤ 3) (p2 : 0 ≤ z ∧ z ≤ 23) (p3 : 0 ≤ iC s 403 (x : Int).toNat ∧ iC s 403 (x : Int).toNat ≤ 24) : CT l s0 D A dT 282 (rmN 282) [.ref (A 179), .int (Int32.ofInt x), .int (Int32.ofInt y), .int (Int32.ofInt z)] s (fun o t => Bd t ∧ Fm [] [] s t ∧ ∃ e, o = .inl (some (.int (Int32.ofInt e))) ∧ rng e ∧ ((0 ≤ e ∧ e ≤ 3000) ∧ ((y = 1 ∧ e = 2 * (if 0 < iC s 403 (x : Int).toNat - (uW U).2 (x : Int).toNat then iC s 403 (x : Int).toNat - (uW U).2 (x : Int).toNat else 0) * uM U (z : Int).toNat (x : Int).toNat) ∨ (y = 2 ∧ e = 15 * uM U (z : Int).toNat (x : Int).toNat) ∨ (y = 3 ∧ e = 60 * uM U (z : Int).toNat (x : Int).toNat)))) := by
  refine ct_of G (by decide) (Nat.le_of_ble_eq_true rfl) (fun k X E hRt hXt q => ?_)
  show WS k 0 [(0, .ref (A 179)), (1, .int (Int32.ofInt x)), (2, .int (Int32.ofInt y)), (3, .int (Int32.ofInt z))] [] _ 0 0
  have F : Fm [] [] s s := fm_rf _ _ s
  have hst9 := jMDJ.1
  have hw1 : iC s 162 (x : Int).toNat = (uW U).2 (x : Int).toNat := (jMDJ.2.1 (x : Int).toNat (by omega)).1
  have hw2 := (jMDJ.2.2.1 (x : Int).toNat (by omega)).1
  refine z_aload_n X (x := A 179) rfl (List.Mem.head _) (s_getR X 179 rfl (c518_ok rfl) rfl rfl (z_load_n X (x := x) rfl (List.Mem.tail _ (List.Mem.head _)) (z_ald X 458 rfl (c518_ok rfl) rfl (by first | exact p0.1 | omega) (show x < 12 by omega) (cbig_ok rfl) ?_)))
  have b1 := bc_403 I (show (x).toNat < 12 by omega)
  refine z_aload_n X (x := A 179) rfl (List.Mem.head _) (s_getR X 179 rfl (c518_ok rfl) rfl rfl (z_load_n X (x := x) rfl (List.Mem.tail _ (List.Mem.head _)) (z_ald X 185 rfl (c518_ok rfl) rfl (by first | exact p0.1 | omega) (show x < 12 by omega) (cbig_ok rfl) ?_)))
  have b2 := bc_162 I (show (x).toNat < 12 by omega)
  refine z_sub X rfl (z_store X (lv' := [(4, .int (Int32.ofInt ((iC s 403 (x).toNat) - (iC s 162 (x).toNat)))), (0, .ref (A 179)), (1, .int (Int32.ofInt x)), (2, .int (Int32.ofInt y)), (3, .int (Int32.ofInt z))]) rfl (by decide) (fun _ h => h) (z_aload_n X (x := A 179) rfl (List.Mem.tail _ (List.Mem.head _)) (z_load_n X (x := x) rfl (List.Mem.tail _ (List.Mem.tail _ (List.Mem.head _))) (z_load_n X (x := z) rfl (List.Mem.tail _ (List.Mem.tail _ (List.Mem.tail _ (List.Mem.tail _ (List.Mem.head _))))) (zcV_i0 X E 179 (As := [.int (Int32.ofInt x), .int (Int32.ofInt z)]) (st := []) rfl rfl rfl rfl (k_mostOf2 G I (by first | exact ⟨p0.1, by omega⟩ | omega) (by first | exact ⟨p2.1, p2.2⟩ | omega)) rfl (Nat.le_of_ble_eq_true rfl) (fun s3 e4 Is3 Fs3 hrs3 hps3 => ?_))))))
  have Gs3 := fm_tq F Fs3 rfl rfl
  have hmo : e4 = uM U (z : Int).toNat (x : Int).toNat := mo_un (x := x) (q := z) jMDJ (by omega) (by omega) hps3.2.2
  refine z_load_n X (x := y) rfl (List.Mem.tail _ (List.Mem.tail _ (List.Mem.tail _ (List.Mem.head _)))) (z_const X rfl (z_icmp_ne X (t := 42) rfl rfl ⟨by first | exact oq_9462313e p1.1 | omega, by first | exact oq_c5520c83 p1.2 | omega⟩ (by decide) (fun g5 => ?_) (fun g5 => ?_)))
  ·
    refine z_load_n X (x := y) rfl (List.Mem.tail _ (List.Mem.tail _ (List.Mem.tail _ (List.Mem.head _)))) (z_const X rfl (z_icmp_ne X (t := 52) rfl rfl ⟨by first | exact oq_9462313e p1.1 | omega, by first | exact oq_c5520c83 p1.2 | omega⟩ (by decide) (fun g6 => ?_) (fun g6 => ?_)))
    ·
      refine z_bipush X rfl ?_
      have hP9 := mul_bd (show 0 ≤ e4 by first | (clear g6 g5; omega) | (clear g5; omega) | omega) (show e4 ≤ 50 by first | (clear g6 g5; omega) | (clear g5; omega) | omega) (show 0 ≤ 60 by decide) (show 60 ≤ 60 by decide)
      refine z_mul X rfl ?_
      exact w_iret X.1 q hRt rfl (ax_d X (show cdA 282 55 = some (.ireturn, 1, 0, 0, 0) from rfl)) (Nat.zero_le _) (Nat.zero_le _) ⟨_, rfl, Is3, Gs3, (e4 * 60), rfl, ⟨by first | exact oq_09bb1bf4 hps3.1 | omega, by first | exact oq_daf99d9c hps3.2.1 | omega⟩, ⟨by first | exact ⟨oq_64fb5450 hps3.1, oq_f85c0b9a hps3.2.1⟩ | omega, Or.inr (Or.inr ⟨by first | exact oq_5e667f62 g6 g5 p1.2 p1.1 | omega, by rw [← hmo]; exact Int.mul_comm _ _⟩)⟩⟩
    ·
      refine z_bipush X rfl (z_goto X (t := 54) rfl rfl ?_)
      have hP9 := mul_bd (show 0 ≤ e4 by first | (clear g5; omega) | omega) (show e4 ≤ 50 by first | (clear g5; omega) | omega) (show 0 ≤ 15 by decide) (show 15 ≤ 60 by decide)
      refine z_mul X rfl ?_
      exact w_iret X.1 q hRt rfl (ax_d X (show cdA 282 55 = some (.ireturn, 1, 0, 0, 0) from rfl)) (Nat.zero_le _) (Nat.zero_le _) ⟨_, rfl, Is3, Gs3, (e4 * 15), rfl, ⟨by first | exact oq_0926c754 hps3.1 | omega, by first | exact oq_2c5ca475 hps3.2.1 | omega⟩, ⟨by first | exact ⟨oq_f86a6cbe hps3.1, oq_294476f4 hps3.2.1⟩ | omega, Or.inr (Or.inl ⟨by first | exact g6 | omega, by rw [← hmo]; exact Int.mul_comm _ _⟩)⟩⟩
  ·
    refine z_const X rfl (z_load X (x := ((iC s 403 (x).toNat) - (iC s 162 (x).toNat))) rfl (List.Mem.head _) (z_if_le X (t := 37) rfl rfl ⟨by first | exact oq_5b45330b b1.1 b2.2 | omega, by first | exact oq_c3c0165d b1.2 b2.1 | omega⟩ (fun g7 => ?_) (fun g7 => ?_)))
    ·
      have hmx : (if 0 < iC s 403 (x : Int).toNat - (uW U).2 (x : Int).toNat then iC s 403 (x : Int).toNat - (uW U).2 (x : Int).toNat else 0) = 0 := if_neg (by omega)
      refine z_const X rfl (z_mul X rfl (z_goto X (t := 54) rfl rfl ?_))
      have hP9 := mul_bd (show 0 ≤ e4 by omega) (show e4 ≤ 50 by omega) (show 0 ≤ (2 * 0) by decide) (show (2 * 0) ≤ 60 by decide)
      refine z_mul X rfl ?_
      exact w_iret X.1 q hRt rfl (ax_d X (show cdA 282 55 = some (.ireturn, 1, 0, 0, 0) from rfl)) (Nat.zero_le _) (Nat.zero_le _) ⟨_, rfl, Is3, Gs3, (e4 * (2 * 0)), rfl, ⟨by omega, by omega⟩, ⟨by first | exact ⟨by decide, by decide⟩ | omega, Or.inl ⟨by first | exact g5 | omega, by rw [hmx, ← hmo]; exact Int.mul_comm _ _⟩⟩⟩
    ·
      have hmx : (if 0 < iC s 403 (x : Int).toNat - (uW U).2 (x : Int).toNat then iC s 403 (x : Int).toNat - (uW U).2 (x : Int).toNat else 0) = ((iC s 403 (x).toNat) - (iC s 162 (x).toNat)) := by rw [if_pos (by omega)]; omega
      refine z_load X (x := ((iC s 403 (x).toNat) - (iC s 162 (x).toNat))) rfl (List.Mem.head _) (z_goto X (t := 38) rfl rfl (z_mul X rfl (z_goto X (t := 54) rfl rfl ?_)))
      have hP9 := mul_bd (show 0 ≤ e4 by omega) (show e4 ≤ 50 by omega) (show 0 ≤ (2 * ((iC s 403 (x).toNat) - (iC s 162 (x).toNat))) by omega) (show (2 * ((iC s 403 (x).toNat) - (iC s 162 (x).toNat))) ≤ 60 by omega)
      refine z_mul X rfl ?_
      exact w_iret X.1 q hRt rfl (ax_d X (show cdA 282 55 = some (.ireturn, 1, 0, 0, 0) from rfl)) (Nat.zero_le _) (Nat.zero_le _) ⟨_, rfl, Is3, Gs3, (e4 * (2 * ((iC s 403 (x).toNat) - (iC s 162 (x).toNat)))), rfl, ⟨by omega, by omega⟩, ⟨by omega, Or.inl ⟨by first | exact g5 | omega, by rw [hmx, ← hmo]; exact Int.mul_comm _ _⟩⟩⟩
set_option maxRecDepth 4000 in
theorem k_load9 (G : GX l s0 D tys a0 dT) {U : AirD} {mo : Nat → Int} (I : Bd s) (jNW : NW s) (jNWL : NWL s) (jMDL : MDL U s) (jNWE : NWE U s) (jNMQ : NMQ mo (uN U : Int) s)  : CT l s0 D A dT 228 (rmN 228) [.ref (A 179)] s (fun o t => Bd t ∧ Fm [77, 75, 78, 79, 80, 81] [161] s t ∧ ∃ e, o = .inl (some (.int (Int32.ofInt e))) ∧ rng e ∧ (Int32.ofInt e = uL U (nmH (inS s) (uW U) mo (uN U) (iI s 89)))) := by
  refine ct_of G (by decide) (Nat.le_of_ble_eq_true rfl) (fun k X E hRt hXt q => ?_)
  show WS k 0 [(0, .ref (A 179))] [] _ 0 0
  have F : Fm [77, 75, 78, 79, 80, 81] [161] s s := fm_rf _ _ s
  have b1 := bi_85 I
  have b2 := bi_82 I
  have b3 := bi_89 I
  refine z_aload_n X (x := A 179) rfl (List.Mem.head _) (zcV_v2 X E 179 (As := []) (st := []) rfl rfl rfl rfl (k_listen3 G I jNW jNWL ) rfl (Nat.le_of_ble_eq_true rfl) (fun s4 Is4 Fs4 JNW_s4 JNWL_s4 hps4 => ?_))
  have Gs4 := fm_tq F Fs4 rfl rfl
  have JNW_s4 : NW s4 := NW_fm Fs4 (by decide) jNW
  have JNWL_s4 : NWL s4 := NWL_fm Fs4 (by decide) jNWL
  have ws4_85 : iI s4 85 = iI s 85 := fm_iq Fs4 rfl
  have ws4_82 : iI s4 82 = iI s 82 := fm_iq Fs4 rfl
  have ws4_89 : iI s4 89 = iI s 89 := fm_iq Fs4 rfl
  have hnm := ml_names hps4 jNWE jNMQ jMDL.1.1 jMDL.2.1
  refine z_aload_n X (x := A 179) rfl (List.Mem.head _) (z_getI X 179 rfl (c518_ok rfl) rfl rfl ?_)
  have b6 := bi_85 Is4
  refine z_const X rfl (z_icmp_ne X (t := 35) rfl rfl (rng_to _) (by decide) (fun g7 => ?_) (fun g7 => ?_))
  ·
    obtain ⟨B, hLB⟩ := ldm_b jMDL.2.2 (by first | (clear g7; omega) | omega)
    have hla : 0 ≤ iI s 85 ∧ iI s 85 ≤ iI s 82 := hLB.1
    refine z_aload_n X (x := A 179) rfl (List.Mem.head _) (z_aload_n X (x := A 179) rfl (List.Mem.head _) (z_getI X 179 rfl (c518_ok rfl) rfl rfl ?_))
    have b8 := bi_85 Is4
    refine zcV_v0 X E 179 (As := [.int (Int32.ofInt (iI s4 85))]) (st := []) rfl rfl rfl rfl (k_readsAt3 G Is4 (by first | exact ⟨oq_e4757433 ws4_85 hla.1, oq_8dae6a5a b8.2⟩ | omega)) rfl (Nat.le_of_ble_eq_true rfl) (fun s9 Is9 Fs9 hps9 => ?_)
    have Gs9 := fm_tq Gs4 Fs9 rfl rfl
    have ws9_85 : iI s9 85 = iI s4 85 := fm_iq Fs9 rfl
    have ws9_82 : iI s9 82 = iI s4 82 := fm_iq Fs9 rfl
    have ws9_89 : iI s9 89 = iI s4 89 := fm_iq Fs9 rfl
    have JF9 : FDB B (iI s 82) s9 := fdb_r (by first | (clear g7; omega) | omega) (by first | (clear g7; omega) | omega) (fun i => fm_c Gs9 (by decide)) hLB.2.1
    refine z_aload_n X (x := A 179) rfl (List.Mem.head _) (z_callV X 179 (rm := (rkR (3 * (7) + 2))) (As := []) (st := []) rfl rfl (by decide) rfl (by rw [E.1, E.2.1, E.2.2.1]; exact (k_sumr5 G (B := B) (N := iI s 82) 7).2.2 Is9 JF9 (by first | exact oq_cc309cab hps9.1 b8.2 | omega) (by first | exact oq_dfaa262d hps9.2.1 | omega) (by first | exact oq_0cce41ba hps9.2.1 | omega)) ⟨by rw [E.2.2.2]; exact (show (12 + (3 * (7) + 2)) + 1 ≤ 36 from oq_74b74999), by rw [E.2.2.2]; exact (show 8 + (4 + 11) + (500 + 45 * (3 * (7) + 2)) ≤ 1558 from oq_f4197522), by rw [E.2.2.2]; exact Nat.le_refl 0, by rw [E.2.2.2]; exact Nat.le_refl 0⟩ (Nat.le_of_ble_eq_true rfl) (fun vv s11 hq => ?_) (fun ee s11 hq => ?_))
    rotate_left
    · obtain ⟨Is11, Fs11, JFDB_s11, e12, hv, hrs11, hps11⟩ := hq; cases hv
    obtain ⟨Is11, Fs11, JFDB_s11, e12, hv, hrs11, hps11⟩ := hq
    cases hv
    have Gs11 := fm_tq Gs9 Fs11 rfl rfl
    have JFDB_s11 : FDB B (iI s 82) s11 := FDB_fm Fs11 (by decide) JF9
    have ws11_85 : iI s11 85 = iI s9 85 := fm_iq Fs11 rfl
    have ws11_82 : iI s11 82 = iI s9 82 := fm_iq Fs11 rfl
    have ws11_89 : iI s11 89 = iI s9 89 := fm_iq Fs11 rfl
    show WS k 47 [(0, .ref (A 179))] [.int (Int32.ofInt e12)] (Wd A dT s11) 0 0
    exact w_iret X.1 q hRt rfl (ax_d X (show cdA 228 47 = some (.ireturn, 1, 0, 0, 0) from rfl)) (Nat.zero_le _) (Nat.zero_le _) ⟨_, rfl, Is11, Gs11, e12, rfl, hrs11, (ml_ld1 (t := s4) (u := s9) hnm hLB (nmr_fm Fs9 (by decide)) (by first | (clear hps11 g7; omega) | (clear g7; omega) | omega) (by first | (clear hps11 g7; omega) | (clear g7; omega) | omega) (by first | (clear hps11 g7; omega) | (clear g7; omega) | omega) hps11.2.2.2.2.2)⟩
  ·
    refine z_aload_n X (x := A 179) rfl (List.Mem.head _) (s_getR X 179 rfl (c518_ok rfl) rfl rfl (z_const X rfl (z_ald X 184 rfl (c518_ok rfl) rfl (by decide) (show 0 < 7 by decide) (cbig_ok rfl) ?_)))
    have b13 := bc_161 Is4 (show (0 : Int).toNat < 7 by first | exact oq_e8ec3fa8 | omega)
    refine z_const X rfl (z_aload_n X (x := A 179) rfl (List.Mem.head _) (s_getR X 179 rfl (c518_ok rfl) rfl rfl (z_const X rfl (z_ald X 184 rfl (c518_ok rfl) rfl (by decide) (show 1 < 7 by decide) (cbig_ok rfl) ?_))))
    have b14 := bc_161 Is4 (show (1 : Int).toNat < 7 by first | exact oq_a32b659c | omega)
    refine z_mul X rfl (z_anyV (fun y15 hy15 ey15 => ?_))
    refine z_add X rfl (z_anyV (fun y16 hy16 ey16 => ?_))
    refine z_aload_n X (x := A 179) rfl (List.Mem.head _) (s_getR X 179 rfl (c518_ok rfl) rfl rfl (z_const X rfl (z_ald X 184 rfl (c518_ok rfl) rfl (by decide) (show 2 < 7 by decide) (cbig_ok rfl) ?_)))
    have b17 := bc_161 Is4 (show (2 : Int).toNat < 7 by first | exact oq_62527c24 | omega)
    refine z_add X rfl (z_anyV (fun y18 hy18 ey18 => ?_))
    exact w_iret X.1 q hRt rfl (ax_d X (show cdA 228 34 = some (.ireturn, 1, 0, 0, 0) from rfl)) (Nat.zero_le _) (Nat.zero_le _) ⟨_, rfl, Is4, Gs4, y18, rfl, hy18, (ml_ld0 hnm jMDL.2.2 (by omega) ey15 ey16 ey18)⟩
set_option maxRecDepth 4000 in
theorem k_noneFull9 (G : GX l s0 D tys a0 dT) {U : AirD} {mo : Nat → Int} (I : Bd s) (jNW : NW s) (jNWL : NWL s) (jMDL : MDL U s) (jNWE : NWE U s) (jNMQ : NMQ mo (uN U : Int) s) (p0 : iI s 89 = 1) : CT l s0 D A dT 283 (rmN 283) [.ref (A 179)] s (fun o t => Bd t ∧ Fm [77, 75, 78, 79, 80, 81] [161, 230] s t ∧ ∃ e, o = .inl (some (.int (Int32.ofInt e))) ∧ rng e ∧ ((e = 1 ∧ fitQ U mo (pfM s) (fun j => iC s 229 j) 8) ∨ (e = 0 ∧ ¬ fitQ U mo (pfM s) (fun j => iC s 229 j) 8))) := by
  refine ct_of G (by decide) (Nat.le_of_ble_eq_true rfl) (fun k X E hRt hXt q => ?_)
  show WS k 0 [(0, .ref (A 179))] [] _ 0 0
  have F : Fm [77, 75, 78, 79, 80, 81] [161, 230] s s := fm_rf _ _ s
  have b1 := bi_89 I
  have L2 : ∀ (n : Nat) (t : PS) (p : Int), Bd t → Fm [77, 75, 78, 79, 80, 81] [161, 230] s t → NW t → NWL t → MDL U t → NWE U t → NMQ mo (uN U : Int) t → (fitQ U mo (pfM s) (fun j => iC s 229 j) p) → ((0 ≤ p ∧ p ≤ 8) ∧ iI t 89 = 1) → (8 - p : Int).toNat < n → (∀ (t' : PS) (p' : Int), Bd t' → Fm [77, 75, 78, 79, 80, 81] [161, 230] s t' → NW t' → NWL t' → MDL U t' → NWE U t' → NMQ mo (uN U : Int) t' → (fitQ U mo (pfM s) (fun j => iC s 229 j) p') → (p' = 8) → WS k 42 [(0, .ref (A 179)), (1, .int (Int32.ofInt p'))] [] (Wd A dT t') 0 0) → WS k 2 [(0, .ref (A 179)), (1, .int (Int32.ofInt p))] [] (Wd A dT t) 0 0 := by
    intro n
    induction n with
    | zero =>
      intro t p I F jjNW jjNWL jjMDL jjNWE jjNMQ hq hi hm kx
      exact absurd hm (Nat.not_lt_zero _)
    | succ n ih =>
      intro t p I F jjNW jjNWL jjMDL jjNWE jjNMQ hq hi hm kx
      have b1001 := bi_89 I
      refine z_load_n X (x := p) rfl (List.Mem.tail _ (List.Mem.head _)) (z_bipush X rfl (z_icmp_ge X (t := 42) rfl rfl ⟨by first | exact oq_fa4e5087 hi.1.1 | omega, by first | exact oq_d3f5d874 hi.1.2 | omega⟩ (by decide) (fun g1002 => ?_) (fun g1002 => ?_)))
      ·
        refine WS_pq [0, 1] (lv' := [(0, .ref (A 179)), (1, .int (Int32.ofInt p))]) rfl ?_
        exact kx _ p I F jjNW jjNWL jjMDL jjNWE jjNMQ hq (by first | exact oq_73d3719d hi.1.2 g1002 | omega)
      ·
        refine z_aload_n X (x := A 179) rfl (List.Mem.head _) (z_load_n X (x := p) rfl (List.Mem.tail _ (List.Mem.head _)) (zcV_v0 X E 179 (As := [.int (Int32.ofInt p)]) (st := []) rfl rfl rfl rfl (k_setOf3 G I (by first | exact ⟨oq_fa4e5087 hi.1.1, oq_7bea7075 g1002⟩ | omega)) rfl (Nat.le_of_ble_eq_true rfl) (fun s1003 Is1003 Fs1003 hps1003 => ?_)))
        have Gs1003 := fm_tq F Fs1003 rfl rfl
        have JNW_s1003 : NW s1003 := NW_fm Fs1003 (by decide) jjNW
        have JNWL_s1003 : NWL s1003 := NWL_fm Fs1003 (by decide) jjNWL
        have JMDL_s1003 : MDL U s1003 := MDL_fm Fs1003 (by decide) jjMDL
        have JNWE_s1003 : NWE U s1003 := NWE_fm Fs1003 (by decide) jjNWE
        have JNMQ_s1003 : NMQ mo (uN U : Int) s1003 := NMQ_fm Fs1003 (by decide) jjNMQ
        have ws1003_89 : iI s1003 89 = iI t 89 := fm_iq Fs1003 rfl
        have hIn : inS s1003 = pcS (pfM s) p := by have z := soq_in hps1003; rw [show pfM t = pfM s from funext (fun j => fm_c F (by decide))] at z; exact z
        refine z_aload_n X (x := A 179) rfl (List.Mem.head _) (z_load_n X (x := p) rfl (List.Mem.tail _ (List.Mem.head _)) (zcV_i0 X E 179 (As := [.int (Int32.ofInt p)]) (st := []) rfl rfl rfl rfl (k_has3 G Is1003 (by first | exact ⟨oq_fa4e5087 hi.1.1, oq_7bea7075 g1002⟩ | omega)) rfl (Nat.le_of_ble_eq_true rfl) (fun s1005 e1006 Is1005 Fs1005 hrs1005 hps1005 => ?_)))
        have hps1005p := hps1005.2
        have Gs1005 := fm_tq Gs1003 Fs1005 rfl rfl
        have JNW_s1005 : NW s1005 := NW_fm Fs1005 (by decide) JNW_s1003
        have JNWL_s1005 : NWL s1005 := NWL_fm Fs1005 (by decide) JNWL_s1003
        have JMDL_s1005 : MDL U s1005 := MDL_fm Fs1005 (by decide) JMDL_s1003
        have JNWE_s1005 : NWE U s1005 := NWE_fm Fs1005 (by decide) JNWE_s1003
        have JNMQ_s1005 : NMQ mo (uN U : Int) s1005 := NMQ_fm Fs1005 (by decide) JNMQ_s1003
        have ws1005_89 : iI s1005 89 = iI s1003 89 := fm_iq Fs1005 rfl
        have hH : HCE (pcS (pfM s) p) e1006 := by have z := hps1005.2; rw [show pfM s1003 = pfM s from funext (fun j => fm_c Gs1003 (by decide))] at z; exact z
        refine z_if_eq X (t := 36) rfl rfl hrs1005 (fun g1007 => ?_) (fun g1007 => ?_)
        ·
          refine z_inc X (x := p) (lv' := [(1, .int (Int32.ofInt (p + 1))), (0, .ref (A 179))]) rfl (by decide) (List.Mem.tail _ (List.Mem.head _)) (fun _ h => h) (z_goto X (t := 2) rfl rfl (WS_pq [1, 0] (lv' := [(0, .ref (A 179)), (1, .int (Int32.ofInt (p + 1)))]) rfl ?_))
          exact ih _ (p + 1) Is1005 Gs1005 JNW_s1005 JNWL_s1005 JMDL_s1005 JNWE_s1005 JNMQ_s1005 (fitq_up hq (by first | (clear hps1005; omega) | omega) (fun w => by unfold presF at w; rw [show (((p : Int).toNat : Nat) : Int) = p by first | (clear hps1005; omega) | omega] at w; exact (hH.elim (fun z => absurd z.1 (by first | (clear hps1005; omega) | omega)) (fun z => z.2 w)).elim)) (by first | exact ⟨And.intro (oq_54f49eb5 hi.1.1) (oq_0c7b19c3 g1002), oq_f34933ba ws1005_89 ws1003_89 hi.2 b1001.1⟩ | omega) (by first | exact qk_me hm (by decide) (oq_9f368f35 g1002) | omega) kx
        ·
          have hH1 : HCE (pcS (pfM s) (((p : Int).toNat : Nat) : Int)) 1 := by rw [show (((p : Int).toNat : Nat) : Int) = p by first | (clear g1007 hps1005; omega) | (clear hps1005; omega) | omega]; have z := hH; rw [show e1006 = 1 by first | (clear g1007 hps1005; omega) | (clear hps1005; omega) | omega] at z; exact z
          refine z_aload_n X (x := A 179) rfl (List.Mem.head _) (zcV_i0 X E 179 (As := []) (st := []) rfl rfl rfl rfl (k_load9 G Is1005 JNW_s1005 JNWL_s1005 JMDL_s1005 JNWE_s1005 JNMQ_s1005 ) rfl (Nat.le_of_ble_eq_true rfl) (fun s1008 e1009 Is1008 Fs1008 hrs1008 hps1008 => ?_))
          have Gs1008 := fm_tq Gs1005 Fs1008 rfl rfl
          have JNW_s1008 : NW s1008 := NW_fm Fs1008 (by decide) JNW_s1005
          have JNWL_s1008 : NWL s1008 := NWL_fm Fs1008 (by decide) JNWL_s1005
          have JMDL_s1008 : MDL U s1008 := MDL_fm Fs1008 (by decide) JMDL_s1005
          have JNWE_s1008 : NWE U s1008 := NWE_fm Fs1008 (by decide) JNWE_s1005
          have JNMQ_s1008 : NMQ mo (uN U : Int) s1008 := NMQ_fm Fs1008 (by decide) JNMQ_s1005
          have ws1008_89 : iI s1008 89 = iI s1005 89 := fm_iq Fs1008 rfl
          have hI2 : inS s1005 = pcS (pfM s) (((p : Int).toNat : Nat) : Int) := by rw [show (((p : Int).toNat : Nat) : Int) = p by first | (clear g1007 hps1005; omega) | (clear hps1005; omega) | omega]; exact (ins_f9 Fs1005 (by decide)).trans hIn
          have hld : e1009 = (uL U (nmH (pcS (pfM s) (((p : Int).toNat : Nat) : Int)) (uW U) mo (uN U) 1)).toInt := by have z := hps1008; rw [hI2, show iI s1005 89 = 1 by first | (clear g1007 hps1005; omega) | (clear hps1005; omega) | omega] at z; exact of_to hrs1008 z
          refine z_aload_n X (x := A 179) rfl (List.Mem.head _) (s_getR X 179 rfl (c518_ok rfl) rfl rfl (z_load_n X (x := p) rfl (List.Mem.tail _ (List.Mem.head _)) (z_ald X 257 rfl (c518_ok rfl) rfl (by first | exact hi.1.1 | omega) (show p < 8 by first | exact g1002 | omega) (cbig_ok rfl) ?_)))
          have b1010 := bc_229 Is1008 (show (p).toNat < 8 by first | exact oq_db4b3b8b g1002 | omega)
          have hlm : iC s1008 229 (p : Int).toNat = iC s 229 (p : Int).toNat := fm_c Gs1008 (by decide)
          refine z_icmp_le X (t := 36) rfl rfl hrs1008 (rng_to _) (fun g1011 => ?_) (fun g1011 => ?_)
          ·
            refine z_inc X (x := p) (lv' := [(1, .int (Int32.ofInt (p + 1))), (0, .ref (A 179))]) rfl (by decide) (List.Mem.tail _ (List.Mem.head _)) (fun _ h => h) (z_goto X (t := 2) rfl rfl (WS_pq [1, 0] (lv' := [(0, .ref (A 179)), (1, .int (Int32.ofInt (p + 1)))]) rfl ?_))
            exact ih _ (p + 1) Is1008 Gs1008 JNW_s1008 JNWL_s1008 JMDL_s1008 JNWE_s1008 JNMQ_s1008 (fitq_up hq (by first | (clear g1007 hps1005; omega) | (clear hps1005; omega) | omega) (fun _ => by show _ ≤ iC s 229 (p : Int).toNat; omega)) (by first | exact ⟨And.intro (oq_54f49eb5 hi.1.1) (oq_0c7b19c3 g1002), oq_29301542 ws1008_89 ws1005_89 ws1003_89 hi.2 b1001.1⟩ | omega) (by first | exact qk_me hm (by decide) (oq_9f368f35 g1002) | omega) kx
          ·
            refine z_const X rfl ?_
            exact w_iret X.1 q hRt (nar_ret (by first | exact Or.inl (by decide) | omega)) (ax_d X (show cdA 283 35 = some (.ireturn, 1, 0, 0, 0) from rfl)) (Nat.zero_le _) (Nat.zero_le _) ⟨_, rfl, Is1008, Gs1008, 0, rfl, (by decide), (Or.inr ⟨rfl, fitq_n (p := (p : Int).toNat) (by first | (clear g1007 hps1005; omega) | (clear hps1005; omega) | omega) hH1 hld (by show iC s 229 (p : Int).toNat < _; omega)⟩)⟩
  refine z_const X rfl (z_store_n X (lv' := [(1, .int (Int32.ofInt 0)), (0, .ref (A 179))]) rfl (by decide) (fun _ h => h) (WS_pq [1, 0] (lv' := [(0, .ref (A 179)), (1, .int (Int32.ofInt 0))]) rfl (L2 ((8 - 0 : Int).toNat + 1) s 0 I F jNW jNWL jMDL jNWE jNMQ (fun p hp => absurd hp (by omega)) (by first | exact ⟨And.intro (by decide) (by decide), p0⟩ | omega) (Nat.lt_succ_self _) ?_)))
  intro s2 x3 Is2 Fs2 JNW_s2 JNWL_s2 JMDL_s2 JNWE_s2 JNMQ_s2 Qs2 hs2
  have b4 := bi_89 Is2
  refine z_const X rfl ?_
  exact w_iret X.1 q hRt (nar_ret (by first | exact Or.inr (by decide) | omega)) (ax_d X (show cdA 283 43 = some (.ireturn, 1, 0, 0, 0) from rfl)) (Nat.zero_le _) (Nat.zero_le _) ⟨_, rfl, Is2, Fs2, 1, rfl, (by decide), (Or.inl ⟨rfl, by have z := Qs2; rw [show x3 = 8 by omega] at z; exact z⟩)⟩
end M87la
