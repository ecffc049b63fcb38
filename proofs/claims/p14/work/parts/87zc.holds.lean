theorem oq_07b36d6e {a0 a1 a2 a3 a4 a5 : Int} (h0 : a0 = 0) (h1 : ((a1 = 1 ∧ (a2 = 0 ∧ (a3 = 1 ∧ a0 = 1))) ∨ ((a1 = 0 ∨ a2 ≠ 0) ∧ (a3 = a2 ∧ ((a0 = 0 ∧ a2 = 0) ∨ (a0 = 1 ∧ a2 ≠ 0)))))) (h2 : ((a4 ≠ 0 ∧ a1 = 0) ∨ (a4 = 0 ∧ a1 = 1))) (h3 : ((a4 = 1 ∧ (0 ≤ a5 ∧ a5 ≤ 7)) ∨ (a4 = 0 ∧ (a5 < 0 ∨ 7 < a5)))) (h4 : a2 = 0) : 0 ≤ a5 := by omega
theorem oq_63710938 {a0 a1 a2 a3 a4 a5 : Int} (h0 : a0 = 0) (h1 : ((a1 = 1 ∧ (a2 = 0 ∧ (a3 = 1 ∧ a0 = 1))) ∨ ((a1 = 0 ∨ a2 ≠ 0) ∧ (a3 = a2 ∧ ((a0 = 0 ∧ a2 = 0) ∨ (a0 = 1 ∧ a2 ≠ 0)))))) (h2 : ((a4 ≠ 0 ∧ a1 = 0) ∨ (a4 = 0 ∧ a1 = 1))) (h3 : ((a4 = 1 ∧ (0 ≤ a5 ∧ a5 ≤ 7)) ∨ (a4 = 0 ∧ (a5 < 0 ∨ 7 < a5)))) (h4 : a2 = 0) : a5 ≤ 7 := by omega
theorem oq_7a416032 {a0 a1 a2 a3 a4 a5 : Int} (h0 : a0 ≠ 0) (h1 : ((a1 = 1 ∧ (a2 = 0 ∧ (a3 = 1 ∧ a0 = 1))) ∨ ((a1 = 0 ∨ a2 ≠ 0) ∧ (a3 = a2 ∧ ((a0 = 0 ∧ a2 = 0) ∨ (a0 = 1 ∧ a2 ≠ 0)))))) (h2 : ((a4 ≠ 0 ∧ a1 = 0) ∨ (a4 = 0 ∧ a1 = 1))) (h3 : ((a4 = 1 ∧ (0 ≤ a5 ∧ a5 ≤ 7)) ∨ (a4 = 0 ∧ (a5 < 0 ∨ 7 < a5)))) (h4 : a2 = 0) : (a5 < 0 ∨ 7 < a5) := by omega
/-! Whole, and all that holds: one answer -/
theorem hge_eq {f f' : Nat → Int} {p e e' : Int} (h : ∀ j, j < 128 → f j = f' j) (a : HGE (pcS f p) e) (b : HGE (pcS f' p) e') : e = e' := by
  rw [← pcs_c h p] at b
  rcases a with ⟨a1, a2⟩ | ⟨a1, a2⟩
  · rcases b with ⟨b1, b2⟩ | ⟨b1, b2⟩
    · exact a1.trans b1.symm
    · exact absurd a2 b2
  · rcases b with ⟨b1, b2⟩ | ⟨b1, b2⟩
    · exact absurd b2 a2
    · exact a1.trans b1.symm
/-- a piece stands: whole, and never full -/
def STN (U : AirD) (lim f : Nat → Int) (p : Int) : Prop := HngT (pcS f p) ∧ pkH U (pcS f p) ≤ lim p.toNat
/-- all pieces below n that have cells stand -/
def HLN (U : AirD) (lim f : Nat → Int) (n : Int) : Prop := ∀ p : Nat, (p : Int) < n → presF f p → STN U lim f (p : Int)
theorem hln_0 {U : AirD} {lim f : Nat → Int} : HLN U lim f 0 := fun p hp => absurd hp (by omega)
theorem hln_up {U : AirD} {lim f : Nat → Int} {n : Int} (h : HLN U lim f n) (n0 : 0 ≤ n) (g : presF f n.toNat → STN U lim f n) : HLN U lim f (n + 1) := fun p hp q => by
  by_cases z : p = n.toNat
  · subst z
    rw [show ((n.toNat : Nat) : Int) = n by omega]
    exact g q
  · exact h p (by omega) q
def HLE (U : AirD) (lim f : Nat → Int) (e : Int) : Prop := (e = 1 ∧ HLN U lim f 8) ∨ (e = 0 ∧ ¬ HLN U lim f 8)
theorem hle_no {U : AirD} {lim f : Nat → Int} {n : Int} (n0 : 0 ≤ n ∧ n ≤ 7) (hp : presF f n.toNat) (hs : ¬ STN U lim f n) : HLE U lim f 0 := Or.inr ⟨rfl, fun q => hs (by
  have z := q n.toNat (by omega) hp
  rw [show ((n.toNat : Nat) : Int) = n by omega] at z
  exact z)⟩
theorem hle_eq {U : AirD} {f f' lim lim' : Nat → Int} {e e' : Int} (h : ∀ j, j < 128 → f j = f' j) (hl : ∀ j, j < 8 → lim j = lim' j) (a : HLE U lim f e) (b : HLE U lim' f' e') : e = e' := by
  have z : HLN U lim f 8 ↔ HLN U lim' f' 8 := by
    constructor
    · intro q p hp w
      rw [← prs_c h] at w
      have y := q p hp w
      unfold STN at y ⊢
      rw [← pcs_c h, ← hl _ (by omega)]
      exact y
    · intro q p hp w
      rw [prs_c h] at w
      have y := q p hp w
      unfold STN at y ⊢
      rw [pcs_c h, hl _ (by omega)]
      exact y
  rcases a with ⟨a1, a2⟩ | ⟨a1, a2⟩
  · rcases b with ⟨b1, b2⟩ | ⟨b1, b2⟩
    · exact a1.trans b1.symm
    · exact absurd (z.mp a2) b2
  · rcases b with ⟨b1, b2⟩ | ⟨b1, b2⟩
    · exact absurd (z.mpr b2) a2
    · exact a1.trans b1.symm
/-- a piece without cells hangs -/
theorem hng_no {S : Int → Prop} (h : ¬ ∃ x, S x) : HngT S := fun a b ha _ => absurd ⟨a, ha⟩ h
theorem prs_hce {f : Nat → Int} {p e : Int} (h : HCE (pcS f p) e) (p0 : 0 ≤ p) : (e ≠ 0 → presF f p.toNat) ∧ (e = 0 → ¬ presF f p.toNat) := by
  have ep : ((p.toNat : Nat) : Int) = p := by omega
  unfold presF
  rw [ep]
  exact ⟨fun q => h.elim (fun z => z.2) (fun z => absurd z.1 q), fun q => h.elim (fun z => absurd (z.1.symm.trans q) (by decide)) (fun z => z.2)⟩
theorem hge_p {S : Int → Prop} {e : Int} (h : HGE S e) : (e ≠ 0 → HngT S) ∧ (e = 0 → ¬ HngT S) := ⟨fun q => h.elim (fun z => z.2) (fun z => absurd z.1 q), fun q => h.elim (fun z => absurd (z.1.symm.trans q) (by decide)) (fun z => z.2)⟩
section M87kc
variable {l : Launch} {s0 : State} {D : va_G} {tys : List (ClassId × FieldType)} {a0 : Array Value} {A : Nat → Nat} {dT : Nat → ClassId} {s : PS}
set_option maxRecDepth 4000 in
theorem cs_whole6 (G : GX l s0 D tys a0 dT) (I : Bd s) (jPMJ : PMJ s) {u : Int} (p0 : rng u) : CT l s0 D A dT 148 (rmN 148) [.ref (A 0), .int (Int32.ofInt u)] s (fun o t => Bd t ∧ Fm [] [] s t ∧ ((∃ e, o = .inl (some (.int (Int32.ofInt e))) ∧ rng e ∧ (0 ≤ u ∧ u ≤ 7 ∧ (e = 0 ∨ e = 1) ∧ HGE (pcS (pfC s) u) e)) ∨ ∃ x : Nat, o = .inr (exN x) ∧ (x = 0 ∧ (u < 0 ∨ 7 < u)))) := by
  refine ct_ofX G (by decide) (Nat.le_of_ble_eq_true rfl) (fun k X E ET hRt hXt q => ?_)
  show WS k 0 [(0, .ref (A 0)), (1, .int (Int32.ofInt u))] [] _ 0 0
  have F : Fm [] [] s s := fm_rf _ _ s
  have aw0_21 : SAM 21 s s := sam_rf
  refine z_aload_n X (x := A 0) rfl (List.Mem.head _) (z_load_n X (x := u) rfl (List.Mem.tail _ (List.Mem.head _)) (z_callV X 0 (rm := rmN 182) (As := [.int (Int32.ofInt u)]) (st := []) rfl rfl (by decide) rfl (by rw [E.1, E.2.1, E.2.2.1]; exact cs_needPiece6 G I (by first | exact ⟨p0.1, p0.2⟩ | omega)) ⟨by rw [E.2.2.2]; exact (show (rmN 182).frames + 1 ≤ (rmN 148).frames by decide), by rw [E.2.2.2]; exact (show 8 + (mNL (miB 182) + 11) + (rmN 182).locals ≤ (rmN 148).locals by decide), by rw [E.2.2.2]; exact (show 0 + 1 ≤ 1 by decide), by rw [E.2.2.2]; exact (show 0 + 6 ≤ 6 by decide)⟩ (Nat.le_of_ble_eq_true rfl) (fun vv s1 hq => ?_) (fun ee s1 hq => ?_)))
  rotate_left
  · obtain ⟨Is1, Fs1, (⟨hv, hps1⟩ | ⟨xx, hv, hps1⟩)⟩ := hq
    · cases hv
    · cases hv
      have Gs1 := fm_tq F Fs1 rfl rfl
      have JPMJ_s1 : PMJ s1 := PMJ_fm Fs1 (by decide) jPMJ
      have aws1_21 : SAM 21 s s1 := sam_ts aw0_21 (sam_fm Fs1 (by decide))
      exact x_out X.1 q (fun x hx => (hXt x hx).elim) (show 1 ≤ 1 by decide) (show 6 ≤ 6 by decide) ⟨_, rfl, Is1, Gs1, Or.inr ⟨xx, rfl, by omega⟩⟩
  obtain ⟨Is1, Fs1, (⟨hv, hps1⟩ | ⟨xx, hv, hps1⟩)⟩ := hq
  rotate_left
  · cases hv
  cases hv
  have Gs1 := fm_tq F Fs1 rfl rfl
  have JPMJ_s1 : PMJ s1 := PMJ_fm Fs1 (by decide) jPMJ
  have aws1_21 : SAM 21 s s1 := sam_ts aw0_21 (sam_fm Fs1 (by decide))
  show WS k 5 [(0, .ref (A 0)), (1, .int (Int32.ofInt u))] [] (Wd A dT s1) 1 6
  refine z_aload_n X (x := A 0) rfl (List.Mem.head _) (s_getR X 0 rfl (c518_ok rfl) rfl rfl (s_getR X 25 rfl (c518_ok rfl) rfl rfl (z_load_n X (x := u) rfl (List.Mem.tail _ (List.Mem.head _)) (z_lalE X 27 rfl (by decide) rfl (by first | exact hps1.1 | omega) (show u < 8 by first | exact oq_aaea290e hps1.2 | omega) (by decide) (z_aload_n X (x := A 0) rfl (List.Mem.head _) (s_getR X 0 rfl (c518_ok rfl) rfl rfl (s_getR X 25 rfl (c518_ok rfl) rfl rfl (z_load_n X (x := u) rfl (List.Mem.tail _ (List.Mem.head _)) (z_lalE X 28 rfl (by decide) rfl (by first | exact hps1.1 | omega) (show u < 8 by first | exact oq_aaea290e hps1.2 | omega) (by decide) (z_callS X (rm := rmN 34) (As := [.long (gD s1 22 (u).toNat), .long (gD s1 23 (u).toNat)]) (st := []) rfl rfl (by rw [E.1, E.2.1, E.2.2.1]; exact c3_hangs3 G Is1 ) ⟨by rw [E.2.2.2]; exact (show (rmN 34).frames + 1 ≤ (rmN 148).frames by decide), by rw [E.2.2.2]; exact (show 8 + (mNL (miB 34) + 11) + (rmN 34).locals ≤ (rmN 148).locals by decide), by rw [E.2.2.2]; exact (show 1 + 0 ≤ 1 by decide), by rw [E.2.2.2]; exact (show 6 + 0 ≤ 6 by decide)⟩ (Nat.le_of_ble_eq_true rfl) (fun vv s3 hq => ?_) (fun ee s3 hq => ?_)))))))))))
  rotate_left
  · obtain ⟨Is3, Fs3, e4, hv, hrs3, hps3⟩ := hq; cases hv
  obtain ⟨Is3, Fs3, e4, hv, hrs3, hps3⟩ := hq
  have hps3p := hps3.2
  cases hv
  have Gs3 := fm_tq Gs1 Fs3 rfl rfl
  have JPMJ_s3 : PMJ s3 := PMJ_fm Fs3 (by decide) JPMJ_s1
  have aws3_21 : SAM 21 s s3 := sam_ts aws1_21 (sam_fm Fs3 (by decide))
  show WS k 26 [(0, .ref (A 0)), (1, .int (Int32.ofInt u))] [.int (Int32.ofInt e4)] (Wd A dT s3) 1 6
  exact w_iret X.1 q hRt (nar_ret (by first | exact hps3.1 | omega)) (ax_d X (show cdA 148 26 = some (.ireturn, 1, 0, 0, 0) from rfl)) (show 1 ≤ 1 by decide) (show 6 ≤ 6 by decide) ⟨_, rfl, Is3, Gs3, Or.inl ⟨e4, rfl, hrs3, ⟨by first | exact hps1.1 | omega, by first | exact hps1.2 | omega, hps3.1, by have z := hps3.2; rw [pm_eq (p := u) JPMJ_s1 (by first | (clear hps3 hps1; omega) | (clear hps1; omega) | omega), show pfC s1 = pfC s from funext aws1_21] at z; exact z⟩⟩⟩
set_option maxRecDepth 4000 in
theorem lw_whole6 (G : GX l s0 D tys a0 dT) (I : Bd s) (jPMJ : PMJ s) {u : Int} (p0 : rng u) : CTL l s0 D A dT 325 (rmN 325) [.ref (A 0), .int (Int32.ofInt u), .ref (A 517)] s (fun o t => Bd t ∧ Fm [] [1460] s t ∧ ∃ e, o = .inl (some (.int (Int32.ofInt e))) ∧ rng e ∧ ((e = 0 ∧ 0 ≤ u ∧ u ≤ 7 ∧ HGE (pcS (pfC s) u) (iO t)) ∨ (e = 1 ∧ (u < 0 ∨ 7 < u)))) := by
  refine ctL_of G (by decide) (Nat.le_of_ble_eq_true rfl) (by decide) rfl (fun k X E ET hRt hEx q => ?_)
  show WS k 0 [(0, .ref (A 0)), (1, .int (Int32.ofInt u)), (2, .ref (A 517))] [] _ 0 0
  have F : Fm [] [1460] s s := fm_rf _ _ s
  have hA := swA_rf A
  refine z_aload_n X (x := A 517) rfl (List.Mem.tail _ (List.Mem.tail _ (List.Mem.head _))) (z_const X rfl (z_aload_n X (x := A 0) rfl (List.Mem.head _) (z_load_n X (x := u) rfl (List.Mem.tail _ (List.Mem.head _)) (z_callV X 0 (rm := rmN 148) (As := [.int (Int32.ofInt u)]) (st := [.int (Int32.ofInt 0), .ref (A 517)]) rfl rfl (by decide) rfl (by rw [E.1, E.2.1, E.2.2.1]; exact cs_whole6 G I jPMJ (by omega)) ⟨by rw [E.2.2.2]; exact (show (rmN 148).frames + 1 ≤ (rmN 325).frames by decide), by rw [E.2.2.2]; exact (show 8 + (mNL (miB 148) + 11) + (rmN 148).locals ≤ (rmN 325).locals by decide), by rw [E.2.2.2]; exact (show 0 + (rmN 148).cells ≤ (rmN 325).cells by decide), by rw [E.2.2.2]; exact (show 0 + (rmN 148).slots ≤ (rmN 325).slots by decide)⟩ (Nat.le_of_ble_eq_true rfl) (fun vv s1 hq => ?_) (fun ee s1 hq => ?_)))))
  rotate_left
  · obtain ⟨Is1, Fs1, (⟨e2, hv, hrs1, hps1⟩ | ⟨xx, hv, hps1⟩)⟩ := hq
    · cases hv
    · cases hv
      rcases (show xx = 0 by omega) with gx
      ·
        subst gx
        have Gs1 := fm_tq F Fs1 rfl rfl
        refine (hEx 4 0).2 19 rfl _ _ _ _ _ (fun q1 => ?_)
        show WS k 19 [(0, .ref (A 0)), (1, .int (Int32.ofInt u)), (2, .ref (A 517))] [.ref q1] (Wd A dT s1) 1 6
        refine z_astore_n X (lv' := [(3, .ref q1), (0, .ref (A 0)), (1, .int (Int32.ofInt u)), (2, .ref (A 517))]) rfl (by decide) (fun _ h => h) (z_const X rfl ?_)
        exact w_iret X.1 q hRt rfl (ax_d X (show cdA 325 21 = some (.ireturn, 1, 0, 0, 0) from rfl)) (show 1 ≤ 1 by decide) (show 6 ≤ 6 by decide) ⟨A, _, hA, rfl, Is1, Gs1, 1, rfl, (by decide), Or.inr ⟨by decide, by omega⟩⟩
  obtain ⟨Is1, Fs1, (⟨e2, hv, hrs1, hps1⟩ | ⟨xx, hv, hps1⟩)⟩ := hq
  rotate_left
  · cases hv
  cases hv
  have Gs1 := fm_tq F Fs1 rfl rfl
  show WS k 7 [(0, .ref (A 0)), (1, .int (Int32.ofInt u)), (2, .ref (A 517))] [.int (Int32.ofInt e2), .int (Int32.ofInt 0), .ref (A 517)] (Wd A dT s1) 1 6
  refine z_if_eq X (t := 14) rfl rfl ⟨by first | (clear hps1; omega) | omega, by first | (clear hps1; omega) | omega⟩ (fun g3 => ?_) (fun g3 => ?_)
  ·
    refine w_lconst X.1 (ax_d X (show cdA 325 14 = some (.lconst 0, 1, 0, 0, 0) from rfl)) (z := (Int32.ofInt 0).toInt64) (by decide) (z_last X 517 rfl (c518_ok rfl) rfl (by first | (clear hps1; omega) | omega) (show 0 < 1 by first | (clear hps1; omega) | omega) (cbig_ok rfl) (wd_gen (fun s4 hs4 => ?_)))
    have Is4 : Bd s4 := eqB hs4 (bd_D Is1)
    have Fs4 : Fm [] [1460] s s4 := by rw [hs4]; exact fm_D Gs1 (show 460 + 1000 ∈ _ by decide)
    have oos4 : iO s4 = 0 := by rw [hs4]; exact iO_u (by first | (clear hps1; omega) | omega)
    refine z_goto X (t := 22) rfl rfl (z_const X rfl ?_)
    exact w_iret X.1 q hRt rfl (ax_d X (show cdA 325 23 = some (.ireturn, 1, 0, 0, 0) from rfl)) (show 1 ≤ 1 by decide) (show 6 ≤ 6 by decide) ⟨A, _, hA, rfl, Is4, Fs4, 0, rfl, (by decide), Or.inl ⟨by decide, by first | (clear hps1; omega) | omega, by first | (clear hps1; omega) | omega, hps1.2.2.2.elim (fun q => Or.inl ⟨by first | (clear hps1; omega) | omega, q.2⟩) (fun q => Or.inr ⟨by first | (clear hps1; omega) | omega, q.2⟩)⟩⟩
  ·
    refine w_lconst X.1 (ax_d X (show cdA 325 10 = some (.lconst 1, 1, 0, 0, 0) from rfl)) (z := (Int32.ofInt 1).toInt64) (by decide) (z_goto X (t := 15) rfl rfl (z_last X 517 rfl (c518_ok rfl) rfl (by first | (clear g3 hps1; omega) | (clear hps1; omega) | omega) (show 0 < 1 by first | (clear g3 hps1; omega) | (clear hps1; omega) | omega) (cbig_ok rfl) (wd_gen (fun s5 hs5 => ?_))))
    have Is5 : Bd s5 := eqB hs5 (bd_D Is1)
    have Fs5 : Fm [] [1460] s s5 := by rw [hs5]; exact fm_D Gs1 (show 460 + 1000 ∈ _ by decide)
    have oos5 : iO s5 = 1 := by rw [hs5]; exact iO_u (by first | (clear g3 hps1; omega) | (clear hps1; omega) | omega)
    refine z_goto X (t := 22) rfl rfl (z_const X rfl ?_)
    exact w_iret X.1 q hRt rfl (ax_d X (show cdA 325 23 = some (.ireturn, 1, 0, 0, 0) from rfl)) (show 1 ≤ 1 by decide) (show 6 ≤ 6 by decide) ⟨A, _, hA, rfl, Is5, Fs5, 0, rfl, (by decide), Or.inl ⟨by decide, by first | (clear g3 hps1; omega) | (clear hps1; omega) | omega, by first | (clear g3 hps1; omega) | (clear hps1; omega) | omega, hps1.2.2.2.elim (fun q => Or.inl ⟨by first | (clear g3 hps1; omega) | (clear hps1; omega) | omega, q.2⟩) (fun q => Or.inr ⟨by first | (clear g3 hps1; omega) | (clear hps1; omega) | omega, q.2⟩)⟩⟩
set_option maxRecDepth 4000 in
theorem k_whole6 (G : GX l s0 D tys a0 dT) (I : Bd s) {x : Int} (p0 : rng x) : CT l s0 D A dT 241 (rmN 241) [.ref (A 179), .int (Int32.ofInt x)] s (fun o t => Bd t ∧ Fm [73] [231, 232, 230] s t ∧ ∃ e, o = .inl (some (.int (Int32.ofInt e))) ∧ rng e ∧ ((0 ≤ x ∧ x ≤ 7 ∧ iI t 73 = 0 ∧ HGE (pcS (pfM s) x) e) ∨ ((x < 0 ∨ 7 < x) ∧ iI t 73 = 1))) := by
  refine ct_of G (by decide) (Nat.le_of_ble_eq_true rfl) (fun k X E hRt hXt q => ?_)
  show WS k 0 [(0, .ref (A 179)), (1, .int (Int32.ofInt x))] [] _ 0 0
  have F : Fm [73] [231, 232, 230] s s := fm_rf _ _ s
  have b1 := bi_73 I
  refine z_aload_n X (x := A 179) rfl (List.Mem.head _) (z_const X rfl (s_putI X 179 rfl (c518_ok rfl) rfl rfl (by decide) rfl rfl rfl (wd_gen (fun s2 hs2 => ?_))))
  have Is2 : Bd s2 := eqB hs2 (bd_I I (show (0 : Int) ≤ 0 ∧ 0 ≤ 3 by first | exact ⟨by decide, by decide⟩ | omega) (by decide))
  have Fs2 := eqF hs2 (fm_I F (inl_ok (a := 73) rfl))
  have vs2 : iI s2 73 = 0 := eqI hs2 (iI_u (by decide))
  refine z_aload_n X (x := A 179) rfl (List.Mem.head _) (z_load_n X (x := x) rfl (List.Mem.tail _ (List.Mem.head _)) (z_const X rfl (z_bipush X rfl (z_callS X (rm := rmN 188) (As := [.int (Int32.ofInt x), .int (Int32.ofInt 0), .int (Int32.ofInt 7)]) (st := [.ref (A 179)]) rfl rfl (by rw [E.1, E.2.1, E.2.2.1]; exact k_in2 G Is2 (by first | exact ⟨p0.1, p0.2⟩ | omega) (by first | exact ⟨by decide, by decide⟩ | omega) (by first | exact ⟨by decide, by decide⟩ | omega)) ⟨by rw [E.2.2.2]; exact (show (rmN 188).frames + 1 ≤ (rmN 241).frames by decide), by rw [E.2.2.2]; exact (show 8 + (mNL (miB 188) + 11) + (rmN 188).locals ≤ (rmN 241).locals by decide), by rw [E.2.2.2]; exact (show 0 + (rmN 188).cells ≤ (rmN 241).cells by decide), by rw [E.2.2.2]; exact (show 0 + (rmN 188).slots ≤ (rmN 241).slots by decide)⟩ (Nat.le_of_ble_eq_true rfl) (fun vv s3 hq => ?_) (fun ee s3 hq => ?_)))))
  rotate_left
  · obtain ⟨rfl, e4, hv, hrs3, hps3⟩ := hq; cases hv
  obtain ⟨rfl, e4, hv, hrs3, hps3⟩ := hq
  cases hv
  show WS k 13 [(0, .ref (A 179)), (1, .int (Int32.ofInt x))] [.int (Int32.ofInt e4), .ref (A 179)] (Wd A dT s2) 0 0
  have N5 : ∀ e6 : Int, (((e4 ≠ 0) ∧ e6 = 0) ∨ ((e4 = 0) ∧ e6 = 1)) → WS k 21 [(0, .ref (A 179)), (1, .int (Int32.ofInt x))] [.int (Int32.ofInt e6), .ref (A 179)] (Wd A dT s2) 0 0 := by
    intro e6 he6
    have re6 : 0 ≤ e6 ∧ e6 ≤ 1 := by first | (clear he6 hps3; omega) | (clear hps3; omega) | omega
    refine z_const X rfl (zcV_i0 X E 179 (As := [.int (Int32.ofInt e6), .int (Int32.ofInt 1)]) (st := []) rfl rfl rfl rfl (k_bad2 G Is2 (by first | exact oq_31e518ae re6.2 re6.1 | omega) (by first | exact ⟨by decide, by decide⟩ | omega)) rfl (Nat.le_of_ble_eq_true rfl) (fun s7 e8 Is7 Fs7 hrs7 hps7 => ?_))
    have Gs7 := fm_tq Fs2 Fs7 rfl rfl
    have b9 := bi_73 Is7
    refine z_if_eq X (t := 30) rfl rfl hrs7 (fun g10 => ?_) (fun g10 => ?_)
    ·
      refine z_aload_n X (x := A 179) rfl (List.Mem.head _) (z_load_n X (x := x) rfl (List.Mem.tail _ (List.Mem.head _)) (zcV_i0 X E 179 (As := [.int (Int32.ofInt x)]) (st := []) rfl rfl rfl rfl (k_whole3 G Is7 (by first | exact ⟨p0.1, p0.2⟩ | omega)) rfl (Nat.le_of_ble_eq_true rfl) (fun s11 e12 Is11 Fs11 hrs11 hps11 => ?_)))
      have hps11p := hps11.2
      have Gs11 := fm_tq Gs7 Fs11 rfl rfl
      have ws11_73 : iI s11 73 = iI s7 73 := fm_iq Fs11 rfl
      exact w_iret X.1 q hRt (nar_ret (by first | exact hps11.1 | omega)) (ax_d X (show cdA 241 35 = some (.ireturn, 1, 0, 0, 0) from rfl)) (Nat.zero_le _) (Nat.zero_le _) ⟨_, rfl, Is11, Gs11, e12, rfl, hrs11, Or.inl ⟨by first | exact oq_07b36d6e g10 hps7 he6 hps3 vs2 | omega, by first | exact oq_63710938 g10 hps7 he6 hps3 vs2 | omega, by first | exact oq_36baa0f5 ws11_73 g10 b9.1 hps7 vs2 | omega, by have z := hps11.2; rw [show pfM s7 = pfM s from funext (fun j => fm_c Gs7 (by decide))] at z; exact z⟩⟩
    ·
      refine z_const X rfl ?_
      exact w_iret X.1 q hRt (nar_ret (by first | exact Or.inl (by decide) | omega)) (ax_d X (show cdA 241 29 = some (.ireturn, 1, 0, 0, 0) from rfl)) (Nat.zero_le _) (Nat.zero_le _) ⟨_, rfl, Is7, Gs7, 0, rfl, (by decide), Or.inr ⟨by first | exact oq_7a416032 g10 hps7 he6 hps3 vs2 | omega, by first | exact oq_58a3c280 g10 hps7 vs2 | omega⟩⟩
  refine z_if_ne X (t := 20) rfl rfl hrs3 (fun g13 => ?_) (fun g13 => ?_)
  ·
    exact z_const X rfl (N5 _ (Or.inl ⟨g13, rfl⟩))
  ·
    exact z_const X rfl (z_goto X (t := 21) rfl rfl (N5 _ (Or.inr (⟨g13, rfl⟩))))
set_option maxRecDepth 4000 in
theorem c2_stands6 (G : GX l s0 D tys a0 dT) {U : AirD} (I : Bd s) (jAIR : AIR s) (jCPL : CPL s) (jCDJ : CDJ U s) (jPMJ : PMJ s) {x : Int} (p0 : 0 ≤ x ∧ x ≤ 7) : CT l s0 D A dT 18 (rmN 18) [.ref (A 41), .int (Int32.ofInt x)] s (fun o t => Bd t ∧ Fm [22, 23, 24] [33, 26, 27, 28, 29, 30, 31, 32, 20] s t ∧ ∃ e, o = .inl (some (.int (Int32.ofInt e))) ∧ rng e ∧ ((e = 1 ∧ STN U (fun j => iC s 24 j) (pfC s) x) ∨ (e = 0 ∧ ¬ STN U (fun j => iC s 24 j) (pfC s) x))) := by
  refine ct_ofX G (by decide) (Nat.le_of_ble_eq_true rfl) (fun k X E ET hRt hXt q => ?_)
  show WS k 0 [(0, .ref (A 41)), (1, .int (Int32.ofInt x))] [] _ 0 0
  have F : Fm [22, 23, 24] [33, 26, 27, 28, 29, 30, 31, 32, 20] s s := fm_rf _ _ s
  refine z_aload_n X (x := A 41) rfl (List.Mem.head _) (z_load_n X (x := x) rfl (List.Mem.tail _ (List.Mem.head _)) (zcV_i0 X E 41 (As := [.int (Int32.ofInt x)]) (st := []) rfl rfl rfl rfl (c2_whole3 G I jPMJ (by first | exact ⟨p0.1, p0.2⟩ | omega)) rfl (Nat.le_of_ble_eq_true rfl) (fun s1 e2 Is1 Fs1 hrs1 hps1 => ?_)))
  have hps1p := hps1.2
  have Gs1 := fm_tq F Fs1 rfl rfl
  have JAIR_s1 : AIR s1 := AIR_fm Fs1 (by decide) jAIR
  have JCPL_s1 : CPL s1 := CPL_fm Fs1 (by decide) jCPL
  have JCDJ_s1 : CDJ U s1 := CDJ_fm Fs1 (by decide) jCDJ
  have JPMJ_s1 : PMJ s1 := PMJ_fm Fs1 (by decide) jPMJ
  have hHg : HGE (pcS (pfC s) x) e2 := hps1.2
  have hHp := hge_p hHg
  refine z_if_ne X (t := 10) rfl rfl hrs1 (fun g3 => ?_) (fun g3 => ?_)
  ·
    refine z_aload_n X (x := A 41) rfl (List.Mem.head _) (s_getR X 41 rfl (c518_ok rfl) rfl rfl (z_aload_n X (x := A 41) rfl (List.Mem.head _) (s_getR X 41 rfl (c518_ok rfl) rfl rfl (s_getR X 25 rfl (c518_ok rfl) rfl rfl (z_load_n X (x := x) rfl (List.Mem.tail _ (List.Mem.head _)) (z_lalE X 27 rfl (by decide) rfl (by first | exact p0.1 | omega) (show x < 8 by first | exact oq_aaea290e p0.2 | omega) (by decide) (z_aload_n X (x := A 41) rfl (List.Mem.head _) (s_getR X 41 rfl (c518_ok rfl) rfl rfl (s_getR X 25 rfl (c518_ok rfl) rfl rfl (z_load_n X (x := x) rfl (List.Mem.tail _ (List.Mem.head _)) (z_lalE X 28 rfl (by decide) rfl (by first | exact p0.1 | omega) (show x < 8 by first | exact oq_aaea290e p0.2 | omega) (by decide) ?_)))))))))))
    refine z_const X rfl (zcV_v0 X E 31 (As := [.long (gD s1 22 (x).toNat), .long (gD s1 23 (x).toNat), .int (Int32.ofInt 1)]) (st := []) rfl rfl rfl rfl (c0_listen3 G Is1 (by first | exact ⟨by decide, by decide⟩ | omega)) rfl (Nat.le_of_ble_eq_true rfl) (fun s4 Is4 Fs4 hps4 => ?_))
    have Gs4 := fm_tq Gs1 Fs4 rfl rfl
    have JAIR_s4 : AIR s4 := AIR_fm Fs4 (by decide) JAIR_s1
    have JCPL_s4 : CPL s4 := CPL_fm Fs4 (by decide) JCPL_s1
    have JCDJ_s4 : CDJ U s4 := CDJ_fm Fs4 (by decide) JCDJ_s1
    have JPMJ_s4 : PMJ s4 := PMJ_fm Fs4 (by decide) JPMJ_s1
    refine z_aload_n X (x := A 41) rfl (List.Mem.head _) (s_getR X 41 rfl (c518_ok rfl) rfl rfl (zcV_i1 X E 31 (As := []) (st := []) rfl rfl rfl rfl (c0_findPeak3 G Is4 JAIR_s4 JCPL_s4 hps4.1 JCDJ_s4 hps4.2 ) rfl (Nat.le_of_ble_eq_true rfl) (fun s6 e7 Is6 Fs6 JHEH_s6 hrs6 hps6 => ?_)))
    have Gs6 := fm_tq Gs4 Fs6 rfl rfl
    have JAIR_s6 : AIR s6 := AIR_fm Fs6 (by decide) JAIR_s4
    have JCPL_s6 : CPL s6 := CPL_fm Fs6 (by decide) JCPL_s4
    have JCDJ_s6 : CDJ U s6 := CDJ_fm Fs6 (by decide) JCDJ_s4
    have JPMJ_s6 : PMJ s6 := PMJ_fm Fs6 (by decide) JPMJ_s4
    have JLSN_s6 : LSN (gD s1 22 (x : Int).toNat) (gD s1 23 (x : Int).toNat) s6 := LSN_fm Fs6 (by decide) hps4.1
    have hpk : e7 = pkH U (pcS (pfC s) x) := by rw [← (show pcS (pfC s1) x = (pcS (pfC s) x) from by rw [show pfC s1 = pfC s from funext (fun j => fm_c Gs1 (by decide))]), ← pm_eq (p := x) JPMJ_s1 (by first | (clear g3 hps1; omega) | (clear hps1; omega) | omega)]; exact hps6.1
    refine z_aload_n X (x := A 41) rfl (List.Mem.head _) (s_getR X 41 rfl (c518_ok rfl) rfl rfl (s_getR X 25 rfl (c518_ok rfl) rfl rfl (z_load_n X (x := x) rfl (List.Mem.tail _ (List.Mem.head _)) (z_ald X 29 rfl (c518_ok rfl) rfl (by first | exact p0.1 | omega) (show x < 8 by first | exact oq_aaea290e p0.2 | omega) (cbig_ok rfl) ?_))))
    have b8 := bc_24 Is6 (show (x).toNat < 8 by first | exact oq_c19a3aae p0.2 | omega)
    have hL9 : (iC s6 24 (x).toNat) = iC s 24 (x : Int).toNat := fm_c Gs6 (by decide)
    refine z_icmp_gt X (t := 59) rfl rfl hrs6 (rng_to _) (fun g9 => ?_) (fun g9 => ?_)
    ·
      refine z_const X rfl ?_
      exact w_iret X.1 q hRt (nar_ret (by first | exact Or.inl (by decide) | omega)) (ax_d X (show cdA 18 60 = some (.ireturn, 1, 0, 0, 0) from rfl)) (Nat.zero_le _) (Nat.zero_le _) ⟨_, rfl, Is6, Gs6, 0, rfl, (by decide), Or.inr ⟨rfl, fun q => by have z := q.2; rw [← hpk] at z; replace z : _ ≤ iC s 24 (x : Int).toNat := z; omega⟩⟩
    ·
      refine z_const X rfl (z_goto X (t := 60) rfl rfl ?_)
      exact w_iret X.1 q hRt (nar_ret (by first | exact Or.inr (by decide) | omega)) (ax_d X (show cdA 18 60 = some (.ireturn, 1, 0, 0, 0) from rfl)) (Nat.zero_le _) (Nat.zero_le _) ⟨_, rfl, Is6, Gs6, 1, rfl, (by decide), Or.inl ⟨rfl, hHp.1 (by first | (clear g3 hps1; omega) | (clear hps1; omega) | omega), by rw [← hpk]; show _ ≤ iC s 24 (x : Int).toNat; omega⟩⟩
  ·
    refine z_const X rfl ?_
    exact w_iret X.1 q hRt (nar_ret (by first | exact Or.inl (by decide) | omega)) (ax_d X (show cdA 18 9 = some (.ireturn, 1, 0, 0, 0) from rfl)) (Nat.zero_le _) (Nat.zero_le _) ⟨_, rfl, Is1, Gs1, 0, rfl, (by decide), Or.inr ⟨rfl, fun q => hHp.2 (by first | (clear hps1; omega) | omega) q.1⟩⟩
set_option maxRecDepth 4000 in
theorem cs_holds6 (G : GX l s0 D tys a0 dT) {U : AirD} (I : Bd s) (jAIR : AIR s) (jCPL : CPL s) (jCDJ : CDJ U s) (jPMJ : PMJ s)  : CT l s0 D A dT 153 (rmN 153) [.ref (A 0)] s (fun o t => Bd t ∧ Fm [22, 23, 24] [33, 26, 27, 28, 29, 30, 31, 32, 20] s t ∧ ∃ e, o = .inl (some (.int (Int32.ofInt e))) ∧ rng e ∧ ((e = 0 ∨ e = 1) ∧ HLE U (fun j => iC s 24 j) (pfC s) e)) := by
  refine ct_ofX G (by decide) (Nat.le_of_ble_eq_true rfl) (fun k X E ET hRt hXt q => ?_)
  show WS k 0 [(0, .ref (A 0))] [] _ 0 0
  have F : Fm [22, 23, 24] [33, 26, 27, 28, 29, 30, 31, 32, 20] s s := fm_rf _ _ s
  have L2 : ∀ (n : Nat) (t : PS) (p : Int), Bd t → Fm [22, 23, 24] [33, 26, 27, 28, 29, 30, 31, 32, 20] s t → AIR t → CPL t → CDJ U t → PMJ t → (HLN U (fun j => iC s 24 j) (pfC s) p) → (0 ≤ p ∧ p ≤ 8) → (8 - p : Int).toNat < n → (∀ (t' : PS) (p' : Int), Bd t' → Fm [22, 23, 24] [33, 26, 27, 28, 29, 30, 31, 32, 20] s t' → AIR t' → CPL t' → CDJ U t' → PMJ t' → (HLN U (fun j => iC s 24 j) (pfC s) p') → (p' = 8) → WS k 38 [(0, .ref (A 0)), (1, .int (Int32.ofInt p'))] [] (Wd A dT t') 0 0) → WS k 2 [(0, .ref (A 0)), (1, .int (Int32.ofInt p))] [] (Wd A dT t) 0 0 := by
    intro n
    induction n with
    | zero =>
      intro t p I F jjAIR jjCPL jjCDJ jjPMJ hq hi hm kx
      exact absurd hm (Nat.not_lt_zero _)
    | succ n ih =>
      intro t p I F jjAIR jjCPL jjCDJ jjPMJ hq hi hm kx
      refine z_load_n X (x := p) rfl (List.Mem.tail _ (List.Mem.head _)) (z_bipush X rfl (z_icmp_ge X (t := 38) rfl rfl ⟨by first | exact oq_fa4e5087 hi.1 | omega, by first | exact oq_d3f5d874 hi.2 | omega⟩ (by decide) (fun g1001 => ?_) (fun g1001 => ?_)))
      ·
        refine WS_pq [0, 1] (lv' := [(0, .ref (A 0)), (1, .int (Int32.ofInt p))]) rfl ?_
        exact kx _ p I F jjAIR jjCPL jjCDJ jjPMJ hq (by first | exact oq_73d3719d hi.2 g1001 | omega)
      ·
        refine z_aload_n X (x := A 0) rfl (List.Mem.head _) (s_getR X 0 rfl (c518_ok rfl) rfl rfl (z_load_n X (x := p) rfl (List.Mem.tail _ (List.Mem.head _)) (z_callV X 25 (rm := rmN 30) (As := [.int (Int32.ofInt p)]) (st := []) rfl rfl (by decide) rfl (by rw [E.1, E.2.1, E.2.2.1]; exact c3_has3 G I jjPMJ (by first | exact ⟨hi.1, oq_78c639ed g1001⟩ | omega)) ⟨by rw [E.2.2.2]; exact (show (rmN 30).frames + 1 ≤ (rmN 153).frames by decide), by rw [E.2.2.2]; exact (show 8 + (mNL (miB 30) + 11) + (rmN 30).locals ≤ (rmN 153).locals by decide), by rw [E.2.2.2]; exact (show 0 + (rmN 30).cells ≤ (rmN 153).cells by decide), by rw [E.2.2.2]; exact (show 0 + (rmN 30).slots ≤ (rmN 153).slots by decide)⟩ (Nat.le_of_ble_eq_true rfl) (fun vv s1002 hq => ?_) (fun ee s1002 hq => ?_))))
        rotate_left
        · obtain ⟨rfl, e1003, hv, hrs1002, hps1002⟩ := hq; cases hv
        obtain ⟨rfl, e1003, hv, hrs1002, hps1002⟩ := hq
        have hps1002p := hps1002.2
        cases hv
        show WS k 16 [(0, .ref (A 0)), (1, .int (Int32.ofInt p))] [.int (Int32.ofInt e1003)] (Wd A dT t) 0 0
        have hHc : HCE (pcS (pfC s) p) e1003 := by have z := hps1002.2; rw [show pfC t = pfC s from funext (fun j => fm_c F (by decide))] at z; exact z
        have hPr := prs_hce hHc (by first | (clear hps1002; omega) | omega)
        refine z_if_eq X (t := 32) rfl rfl hrs1002 (fun g1004 => ?_) (fun g1004 => ?_)
        ·
          refine z_inc X (x := p) (lv' := [(1, .int (Int32.ofInt (p + 1))), (0, .ref (A 0))]) rfl (by decide) (List.Mem.tail _ (List.Mem.head _)) (fun _ h => h) (z_goto X (t := 2) rfl rfl (WS_pq [1, 0] (lv' := [(0, .ref (A 0)), (1, .int (Int32.ofInt (p + 1)))]) rfl ?_))
          exact ih _ (p + 1) I F jjAIR jjCPL jjCDJ jjPMJ (hln_up hq (by first | (clear hps1002; omega) | omega) (fun z => absurd z (hPr.2 (by first | (clear hps1002; omega) | omega)))) (by first | exact ⟨oq_54f49eb5 hi.1, oq_0c7b19c3 g1001⟩ | omega) (by first | exact qk_me hm (by decide) (oq_9f368f35 g1001) | omega) kx
        ·
          refine z_aload_n X (x := A 0) rfl (List.Mem.head _) (s_getR X 0 rfl (c518_ok rfl) rfl rfl (z_load_n X (x := p) rfl (List.Mem.tail _ (List.Mem.head _)) (zcV_i0 X E 41 (As := [.int (Int32.ofInt p)]) (st := []) rfl rfl rfl rfl (c2_stands6 G I jjAIR jjCPL jjCDJ jjPMJ (by first | exact ⟨hi.1, oq_78c639ed g1001⟩ | omega)) rfl (Nat.le_of_ble_eq_true rfl) (fun s1005 e1006 Is1005 Fs1005 hrs1005 hps1005 => ?_))))
          have Gs1005 := fm_tq F Fs1005 rfl rfl
          have JAIR_s1005 : AIR s1005 := AIR_fm Fs1005 (by decide) jjAIR
          have JCPL_s1005 : CPL s1005 := CPL_fm Fs1005 (by decide) jjCPL
          have JCDJ_s1005 : CDJ U s1005 := CDJ_fm Fs1005 (by decide) jjCDJ
          have JPMJ_s1005 : PMJ s1005 := PMJ_fm Fs1005 (by decide) jjPMJ
          have hSt : (e1006 = 1 ∧ STN U (fun j => iC s 24 j) (pfC s) p) ∨ (e1006 = 0 ∧ ¬ STN U (fun j => iC s 24 j) (pfC s) p) := by have z := hps1005; rw [show pfC t = pfC s from funext (fun j => fm_c F (by decide)), show (fun j => iC t 24 j) = (fun j => iC s 24 j) from funext (fun j => fm_c F (by decide))] at z; exact z
          refine z_if_ne X (t := 32) rfl rfl hrs1005 (fun g1007 => ?_) (fun g1007 => ?_)
          ·
            refine z_inc X (x := p) (lv' := [(1, .int (Int32.ofInt (p + 1))), (0, .ref (A 0))]) rfl (by decide) (List.Mem.tail _ (List.Mem.head _)) (fun _ h => h) (z_goto X (t := 2) rfl rfl (WS_pq [1, 0] (lv' := [(0, .ref (A 0)), (1, .int (Int32.ofInt (p + 1)))]) rfl ?_))
            exact ih _ (p + 1) Is1005 Gs1005 JAIR_s1005 JCPL_s1005 JCDJ_s1005 JPMJ_s1005 (hln_up hq (by first | (clear g1007 hps1005 g1004 hps1002; omega) | (clear hps1005 g1004 hps1002; omega) | omega) (fun _ => hSt.elim (fun z => z.2) (fun z => absurd z.1 (by first | (clear g1007 hps1005 g1004 hps1002; omega) | (clear hps1005 g1004 hps1002; omega) | omega)))) (by first | exact ⟨oq_54f49eb5 hi.1, oq_0c7b19c3 g1001⟩ | omega) (by first | exact qk_me hm (by decide) (oq_9f368f35 g1001) | omega) kx
          ·
            refine z_const X rfl ?_
            exact w_iret X.1 q hRt (nar_ret (by first | exact Or.inl (by decide) | omega)) (ax_d X (show cdA 153 31 = some (.ireturn, 1, 0, 0, 0) from rfl)) (Nat.zero_le _) (Nat.zero_le _) ⟨_, rfl, Is1005, Gs1005, 0, rfl, (by decide), ⟨Or.inl rfl, hle_no (by first | (clear hps1005 g1004 hps1002; omega) | (clear g1004 hps1002; omega) | omega) (hPr.1 (by first | (clear hps1005 g1004 hps1002; omega) | (clear g1004 hps1002; omega) | omega)) (hSt.elim (fun z => absurd z.1 (by first | (clear hps1005 g1004 hps1002; omega) | (clear g1004 hps1002; omega) | omega)) (fun z => z.2))⟩⟩
  refine z_const X rfl (z_store_n X (lv' := [(1, .int (Int32.ofInt 0)), (0, .ref (A 0))]) rfl (by decide) (fun _ h => h) (WS_pq [1, 0] (lv' := [(0, .ref (A 0)), (1, .int (Int32.ofInt 0))]) rfl (L2 ((8 - 0 : Int).toNat + 1) s 0 I F jAIR jCPL jCDJ jPMJ hln_0 (by first | exact ⟨by decide, by decide⟩ | omega) (Nat.lt_succ_self _) ?_)))
  intro s1 x2 Is1 Fs1 JAIR_s1 JCPL_s1 JCDJ_s1 JPMJ_s1 Qs1 hs1
  refine z_const X rfl ?_
  exact w_iret X.1 q hRt (nar_ret (by first | exact Or.inr (by decide) | omega)) (ax_d X (show cdA 153 39 = some (.ireturn, 1, 0, 0, 0) from rfl)) (Nat.zero_le _) (Nat.zero_le _) ⟨_, rfl, Is1, Fs1, 1, rfl, (by decide), ⟨Or.inr rfl, Or.inl ⟨rfl, by have z := Qs1; rw [show x2 = 8 by omega] at z; exact z⟩⟩⟩
set_option maxRecDepth 4000 in
theorem k_holds6 (G : GX l s0 D tys a0 dT) {U : AirD} (I : Bd s) (jRLx : RLx s) (jMDJ : MDJ U s) (p0 : iI s 89 = 1) : CT l s0 D A dT 247 (rmN 247) [.ref (A 179)] s (fun o t => Bd t ∧ Fm [73, 77, 75, 78, 79, 80, 81] [202, 204, 205, 206, 207, 208, 209, 210, 211, 212, 213, 214, 215, 216, 217, 218, 219, 220, 221, 222, 223, 224, 225, 226, 227, 203, 161, 230, 231, 232] s t ∧ RLx t ∧ ∃ e, o = .inl (some (.int (Int32.ofInt e))) ∧ rng e ∧ ((e = 0 ∨ e = 1) ∧ iI t 73 = 0 ∧ HLE U (fun j => iC s 229 j) (pfM s) e)) := by
  refine ct_of G (by decide) (Nat.le_of_ble_eq_true rfl) (fun k X E hRt hXt q => ?_)
  show WS k 0 [(0, .ref (A 179))] [] _ 0 0
  have F : Fm [73, 77, 75, 78, 79, 80, 81] [202, 204, 205, 206, 207, 208, 209, 210, 211, 212, 213, 214, 215, 216, 217, 218, 219, 220, 221, 222, 223, 224, 225, 226, 227, 203, 161, 230, 231, 232] s s := fm_rf _ _ s
  have b1 := bi_73 I
  have b2 := bi_89 I
  have L7 : ∀ (n : Nat) (t : PS) (p : Int), Bd t → Fm [73, 77, 75, 78, 79, 80, 81] [202, 204, 205, 206, 207, 208, 209, 210, 211, 212, 213, 214, 215, 216, 217, 218, 219, 220, 221, 222, 223, 224, 225, 226, 227, 203, 161, 230, 231, 232] s t → RLx t → MDJ U t → (HLN U (fun j => iC s 229 j) (pfM s) p) → ((0 ≤ p ∧ p ≤ 8) ∧ iI t 73 = 0 ∧ iI t 89 = 1) → (8 - p : Int).toNat < n → (∀ (t' : PS) (p' : Int), Bd t' → Fm [73, 77, 75, 78, 79, 80, 81] [202, 204, 205, 206, 207, 208, 209, 210, 211, 212, 213, 214, 215, 216, 217, 218, 219, 220, 221, 222, 223, 224, 225, 226, 227, 203, 161, 230, 231, 232] s t' → RLx t' → MDJ U t' → (HLN U (fun j => iC s 229 j) (pfM s) p') → (p' = 8 ∧ iI t' 73 = 0) → WS k 51 [(0, .ref (A 179)), (1, .int (Int32.ofInt p'))] [] (Wd A dT t') 0 0) → WS k 7 [(0, .ref (A 179)), (1, .int (Int32.ofInt p))] [] (Wd A dT t) 0 0 := by
    intro n
    induction n with
    | zero =>
      intro t p I F jjRLx jjMDJ hq hi hm kx
      exact absurd hm (Nat.not_lt_zero _)
    | succ n ih =>
      intro t p I F jjRLx jjMDJ hq hi hm kx
      have b1001 := bi_73 I
      have b1002 := bi_89 I
      refine z_load_n X (x := p) rfl (List.Mem.tail _ (List.Mem.head _)) (z_bipush X rfl (z_icmp_ge X (t := 51) rfl rfl ⟨by first | exact oq_fa4e5087 hi.1.1 | omega, by first | exact oq_d3f5d874 hi.1.2 | omega⟩ (by decide) (fun g1003 => ?_) (fun g1003 => ?_)))
      ·
        refine WS_pq [0, 1] (lv' := [(0, .ref (A 179)), (1, .int (Int32.ofInt p))]) rfl ?_
        exact kx _ p I F jjRLx jjMDJ hq (by first | exact ⟨oq_73d3719d hi.1.2 g1003, hi.2.1⟩ | omega)
      ·
        refine z_aload_n X (x := A 179) rfl (List.Mem.head _) (z_load_n X (x := p) rfl (List.Mem.tail _ (List.Mem.head _)) (zcV_i0 X E 179 (As := [.int (Int32.ofInt p)]) (st := []) rfl rfl rfl rfl (k_whole3 G I (by first | exact ⟨oq_fa4e5087 hi.1.1, oq_7bea7075 g1003⟩ | omega)) rfl (Nat.le_of_ble_eq_true rfl) (fun s1004 e1005 Is1004 Fs1004 hrs1004 hps1004 => ?_)))
        have hps1004p := hps1004.2
        have Gs1004 := fm_tq F Fs1004 rfl rfl
        have JRLx_s1004 : RLx s1004 := RLx_fm Fs1004 (by decide) jjRLx
        have JMDJ_s1004 : MDJ U s1004 := MDJ_fm Fs1004 (by decide) jjMDJ
        have ws1004_73 : iI s1004 73 = iI t 73 := fm_iq Fs1004 rfl
        have ws1004_89 : iI s1004 89 = iI t 89 := fm_iq Fs1004 rfl
        have hHg : HGE (pcS (pfM s) p) e1005 := by have z := hps1004.2; rw [show pfM t = pfM s from funext (fun j => fm_c F (by decide))] at z; exact z
        have hHp := hge_p hHg
        refine z_if_eq X (t := 43) rfl rfl hrs1004 (fun g1006 => ?_) (fun g1006 => ?_)
        ·
          refine z_const X rfl ?_
          exact w_iret X.1 q hRt (nar_ret (by first | exact Or.inl (by decide) | omega)) (ax_d X (show cdA 247 44 = some (.ireturn, 1, 0, 0, 0) from rfl)) (Nat.zero_le _) (Nat.zero_le _) ⟨_, rfl, Is1004, Gs1004, JRLx_s1004, 0, rfl, (by decide), ⟨Or.inl rfl, by first | exact oq_333640b7 ws1004_73 hi.2.1 b1001.1 | omega, hle_no (by first | (clear hps1004; omega) | omega) (Classical.byContradiction (fun z => hHp.2 (by first | (clear hps1004; omega) | omega) (hng_no (by unfold presF at z; rw [show (((p : Int).toNat : Nat) : Int) = p by first | (clear hps1004; omega) | omega] at z; exact z)))) (fun q => hHp.2 (by first | (clear hps1004; omega) | omega) q.1)⟩⟩
        ·
          refine z_aload_n X (x := A 179) rfl (List.Mem.head _) (z_load_n X (x := p) rfl (List.Mem.tail _ (List.Mem.head _)) (zcV_i0 X E 179 (As := [.int (Int32.ofInt p)]) (st := []) rfl rfl rfl rfl (k_has3 G Is1004 (by first | exact ⟨oq_fa4e5087 hi.1.1, oq_7bea7075 g1003⟩ | omega)) rfl (Nat.le_of_ble_eq_true rfl) (fun s1007 e1008 Is1007 Fs1007 hrs1007 hps1007 => ?_)))
          have hps1007p := hps1007.2
          have Gs1007 := fm_tq Gs1004 Fs1007 rfl rfl
          have JRLx_s1007 : RLx s1007 := RLx_fm Fs1007 (by decide) JRLx_s1004
          have JMDJ_s1007 : MDJ U s1007 := MDJ_fm Fs1007 (by decide) JMDJ_s1004
          have ws1007_73 : iI s1007 73 = iI s1004 73 := fm_iq Fs1007 rfl
          have ws1007_89 : iI s1007 89 = iI s1004 89 := fm_iq Fs1007 rfl
          have hHc : HCE (pcS (pfM s) p) e1008 := by have z := hps1007.2; rw [show pfM s1004 = pfM s from funext (fun j => fm_c Gs1004 (by decide))] at z; exact z
          have hPr := prs_hce hHc (by first | (clear hps1007 g1006 hps1004; omega) | (clear g1006 hps1004; omega) | omega)
          refine z_if_eq X (t := 45) rfl rfl hrs1007 (fun g1009 => ?_) (fun g1009 => ?_)
          ·
            refine z_inc X (x := p) (lv' := [(1, .int (Int32.ofInt (p + 1))), (0, .ref (A 179))]) rfl (by decide) (List.Mem.tail _ (List.Mem.head _)) (fun _ h => h) (z_goto X (t := 7) rfl rfl (WS_pq [1, 0] (lv' := [(0, .ref (A 179)), (1, .int (Int32.ofInt (p + 1)))]) rfl ?_))
            exact ih _ (p + 1) Is1007 Gs1007 JRLx_s1007 JMDJ_s1007 (hln_up hq (by first | (clear hps1007 g1006 hps1004; omega) | (clear g1006 hps1004; omega) | omega) (fun z => absurd z (hPr.2 (by first | (clear hps1007 g1006 hps1004; omega) | (clear g1006 hps1004; omega) | omega)))) (by first | exact ⟨And.intro (oq_54f49eb5 hi.1.1) (oq_0c7b19c3 g1003), oq_7fe879e0 ws1007_73 ws1004_73 hi.2.1 b1001.1, oq_f34933ba ws1007_89 ws1004_89 hi.2.2 b1002.1⟩ | omega) (by first | exact qk_me hm (by decide) (oq_9f368f35 g1003) | omega) kx
          ·
            refine z_aload_n X (x := A 179) rfl (List.Mem.head _) (z_load_n X (x := p) rfl (List.Mem.tail _ (List.Mem.head _)) (zcV_i1 X E 179 (As := [.int (Int32.ofInt p)]) (st := []) rfl rfl rfl rfl (k_peakPiece3 G Is1007 JRLx_s1007 JMDJ_s1007 (by first | exact ⟨oq_fa4e5087 hi.1.1, oq_7bea7075 g1003⟩ | omega) (by first | exact oq_f34933ba ws1007_89 ws1004_89 hi.2.2 b1002.1 | omega)) rfl (Nat.le_of_ble_eq_true rfl) (fun s1010 e1011 Is1010 Fs1010 JRLx_s1010 hrs1010 hps1010 => ?_)))
            have Gs1010 := fm_tq Gs1007 Fs1010 rfl rfl
            have JRLx_s1010 : RLx s1010 := RLx_fm Fs1010 (by decide) JRLx_s1007
            have JMDJ_s1010 : MDJ U s1010 := MDJ_fm Fs1010 (by decide) JMDJ_s1007
            have ws1010_73 : iI s1010 73 = iI s1007 73 := fm_iq Fs1010 rfl
            have ws1010_89 : iI s1010 89 = iI s1007 89 := fm_iq Fs1010 rfl
            have hpk : e1011 = pkH U (pcS (pfM s) p) := by have z := hps1010; rw [show pfM s1007 = pfM s from funext (fun j => fm_c Gs1007 (by decide))] at z; exact z
            refine z_aload_n X (x := A 179) rfl (List.Mem.head _) (s_getR X 179 rfl (c518_ok rfl) rfl rfl (z_load_n X (x := p) rfl (List.Mem.tail _ (List.Mem.head _)) (z_ald X 257 rfl (c518_ok rfl) rfl (by first | exact hi.1.1 | omega) (show p < 8 by first | exact g1003 | omega) (cbig_ok rfl) ?_)))
            have b1012 := bc_229 Is1010 (show (p).toNat < 8 by first | exact oq_db4b3b8b g1003 | omega)
            have hL9 : (iC s1010 229 (p).toNat) = iC s 229 (p : Int).toNat := fm_c Gs1010 (by decide)
            refine z_icmp_le X (t := 45) rfl rfl hrs1010 (rng_to _) (fun g1013 => ?_) (fun g1013 => ?_)
            ·
              refine z_inc X (x := p) (lv' := [(1, .int (Int32.ofInt (p + 1))), (0, .ref (A 179))]) rfl (by decide) (List.Mem.tail _ (List.Mem.head _)) (fun _ h => h) (z_goto X (t := 7) rfl rfl (WS_pq [1, 0] (lv' := [(0, .ref (A 179)), (1, .int (Int32.ofInt (p + 1)))]) rfl ?_))
              exact ih _ (p + 1) Is1010 Gs1010 JRLx_s1010 JMDJ_s1010 (hln_up hq (by first | (clear g1009 hps1007 g1006 hps1004; omega) | (clear hps1007 g1006 hps1004; omega) | omega) (fun _ => ⟨hHp.1 (by first | (clear g1009 hps1007 g1006 hps1004; omega) | (clear hps1007 g1006 hps1004; omega) | omega), by rw [← hpk]; show _ ≤ iC s 229 (p : Int).toNat; omega⟩)) (by first | exact ⟨And.intro (oq_54f49eb5 hi.1.1) (oq_0c7b19c3 g1003), oq_0f72f93b ws1010_73 ws1007_73 ws1004_73 hi.2.1 b1001.1, oq_29301542 ws1010_89 ws1007_89 ws1004_89 hi.2.2 b1002.1⟩ | omega) (by first | exact qk_me hm (by decide) (oq_9f368f35 g1003) | omega) kx
            ·
              refine z_const X rfl ?_
              exact w_iret X.1 q hRt (nar_ret (by first | exact Or.inl (by decide) | omega)) (ax_d X (show cdA 247 44 = some (.ireturn, 1, 0, 0, 0) from rfl)) (Nat.zero_le _) (Nat.zero_le _) ⟨_, rfl, Is1010, Gs1010, JRLx_s1010, 0, rfl, (by decide), ⟨Or.inl rfl, by first | exact oq_0f72f93b ws1010_73 ws1007_73 ws1004_73 hi.2.1 b1001.1 | omega, hle_no (by first | (clear g1009 hps1007 g1006 hps1004; omega) | (clear hps1007 g1006 hps1004; omega) | omega) (hPr.1 (by first | (clear g1009 hps1007 g1006 hps1004; omega) | (clear hps1007 g1006 hps1004; omega) | omega)) (fun q => by have z := q.2; rw [← hpk] at z; replace z : _ ≤ iC s 229 (p : Int).toNat := z; omega)⟩⟩
  refine z_aload_n X (x := A 179) rfl (List.Mem.head _) (z_const X rfl (s_putI X 179 rfl (c518_ok rfl) rfl rfl (by decide) rfl rfl rfl (wd_gen (fun s3 hs3 => ?_))))
  have Is3 : Bd s3 := eqB hs3 (bd_I I (show (0 : Int) ≤ 0 ∧ 0 ≤ 3 by first | exact ⟨by decide, by decide⟩ | omega) (by decide))
  have Fs3 := eqF hs3 (fm_I F (inl_ok (a := 73) rfl))
  have vs3 : iI s3 73 = 0 := eqI hs3 (iI_u (by decide))
  have ws3_89 : iI s3 89 = iI s 89 := eqI hs3 rfl
  have fs3 : Fm [73] [] s s3 := by rw [hs3]; exact fm_I (fm_rf _ _ _) (show 73 ∈ _ by decide)
  have JRLx_s3 : RLx s3 := RLx_fm fs3 (by decide) jRLx
  have JMDJ_s3 : MDJ U s3 := MDJ_fm fs3 (by decide) jMDJ
  refine z_const X rfl (z_store_n X (lv' := [(1, .int (Int32.ofInt 0)), (0, .ref (A 179))]) rfl (by decide) (fun _ h => h) (WS_pq [1, 0] (lv' := [(0, .ref (A 179)), (1, .int (Int32.ofInt 0))]) rfl (L7 ((8 - 0 : Int).toNat + 1) s3 0 Is3 Fs3 JRLx_s3 JMDJ_s3 hln_0 (by first | exact ⟨And.intro (by decide) (by decide), vs3, oq_b44a1c7f ws3_89 p0 b2.1⟩ | omega) (Nat.lt_succ_self _) ?_)))
  intro s4 x5 Is4 Fs4 JRLx_s4 JMDJ_s4 Qs4 hs4
  have b6 := bi_73 Is4
  have b7 := bi_89 Is4
  refine z_const X rfl ?_
  exact w_iret X.1 q hRt (nar_ret (by first | exact Or.inr (by decide) | omega)) (ax_d X (show cdA 247 52 = some (.ireturn, 1, 0, 0, 0) from rfl)) (Nat.zero_le _) (Nat.zero_le _) ⟨_, rfl, Is4, Fs4, JRLx_s4, 1, rfl, (by decide), ⟨Or.inr rfl, by first | exact hs4.2 | omega, Or.inl ⟨rfl, by have z := Qs4; rw [show x5 = 8 by omega] at z; exact z⟩⟩⟩
end M87kc
