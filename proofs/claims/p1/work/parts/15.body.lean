/-! The law's body whole: the head of its loop, the switch, its cases -/
def swE2 (s : AS) (t : AS) : Bool := Nat.beq (sPc s) (sPc t) && qLO (sLv s) (sLv t) && qLV (sSt s) (sSt t) && qAE (wE (sW s)) (wE (sW t)) && Nat.beq (wH (sW s)).1 (wH (sW t)).1 && qLC (wH (sW s)).2 (wH (sW t)).2 && Nat.beq (wL (sW s)) (wL (sW t)) && Nat.beq (wA (sW s)) (wA (sW t)) && Nat.beq (wX (sW s)) (wX (sW t)) && (sLp s).isEmpty && (sLp t).isEmpty && Nat.beq (sC s) (sC t) && Nat.beq (sS s) (sS t)
theorem swE2_ok {s t : AS} (h : swE2 s t = true) : s = t := by
  obtain ⟨p1, l1, s1, ⟨e1, ⟨n1, c1⟩, u1, a1, x1⟩, lp1, ce1, sl1⟩ := s
  obtain ⟨p2, l2, s2, ⟨e2, ⟨n2, c2⟩, u2, a2, x2⟩, lp2, ce2, sl2⟩ := t
  simp only [swE2, Bool.and_eq_true] at h
  obtain ⟨⟨⟨⟨⟨⟨⟨⟨⟨⟨⟨⟨h1, h2⟩, h3⟩, h4⟩, h5⟩, h6⟩, h7⟩, h8⟩, h9⟩, h10⟩, h11⟩, h12⟩, h13⟩ := h
  have g1 : p1 = p2 := Nat.eq_of_beq_eq_true h1
  have g2 : l1 = l2 := qLO_ok h2
  have g3 : s1 = s2 := qLV_ok h3
  have g4 : e1 = e2 := qAE_ok h4
  have g5 : n1 = n2 := Nat.eq_of_beq_eq_true h5
  have g6 : c1 = c2 := qLC_ok h6
  have g7 : u1 = u2 := Nat.eq_of_beq_eq_true h7
  have g8 : a1 = a2 := Nat.eq_of_beq_eq_true h8
  have g9 : x1 = x2 := Nat.eq_of_beq_eq_true h9
  have g10 : lp1 = [] := List.isEmpty_iff.mp h10
  have g11 : lp2 = [] := List.isEmpty_iff.mp h11
  have g12 : ce1 = ce2 := Nat.eq_of_beq_eq_true h12
  have g13 : sl1 = sl2 := Nat.eq_of_beq_eq_true h13
  clear h1 h2 h3 h4 h5 h6 h7 h8 h9 h10 h11 h12 h13
  rw [g1, g2, g3, g4, g5, g6, g7, g8, g9, g10, g11, g12, g13]
def swStop (s : AS) : Bool := Nat.beq (sPc s) 40 && (List.range 44).any (fun (z : Nat) => swE2 s (swS (z : Int)))
theorem sg_6 : okEnds (oSeg swStop cfA (cxS ht0 6) (oMeth cfA (cxM ht0) 60) 350 350 1000 [sH0] []) = true := by decide +kernel
theorem rn_1 : okEnds (oRun cfA (cxS ht0 1) (oMeth cfA (cxM ht0) 60) 350 350 1000 sH0) = true := by decide +kernel
theorem rn_2 : okEnds (oRun cfA (cxS ht0 2) (oMeth cfA (cxM ht0) 60) 350 350 1000 sH0) = true := by decide +kernel
theorem rn_3 : okEnds (oRun cfA (cxS ht0 3) (oMeth cfA (cxM ht0) 60) 350 350 1000 sH0) = true := by decide +kernel
theorem rn_4 : okEnds (oRun cfA (cxS ht0 4) (oMeth cfA (cxM ht0) 60) 350 350 1000 sH0) = true := by decide +kernel
theorem rn_5 : okEnds (oRun cfA (cxS ht0 5) (oMeth cfA (cxM ht0) 60) 350 350 1000 sH0) = true := by decide +kernel
section WH
variable {k : kx_T} {dT : Nat → ClassId} {a0 : Array Value} {b : Nat} {xs : Nat → Int32}
theorem case_ok (X : LX k dT a0 b 6 xs) {v : VL} (h1 : vO v 0 = b) (h2 : ∀ z, z < 6 → vI v z = xs z) : ∀ z : Nat, z < 44 → GS k (cxS ht0 6) 350 350 dT wH0 v (swS (z : Int))
  | 0, _ => law_run (ct_no (h := ht0) rfl) X (Nat.le_refl _) cs_0 wle_BH (by decide) (by decide) h1 h2
  | 1, _ => law_run (ct_no (h := ht0) rfl) X (Nat.le_refl _) cs_1 wle_BH (by decide) (by decide) h1 h2
  | 2, _ => law_run (ct_no (h := ht0) rfl) X (Nat.le_refl _) cs_2 wle_BH (by decide) (by decide) h1 h2
  | 3, _ => law_run (ct_no (h := ht0) rfl) X (Nat.le_refl _) cs_3 wle_BH (by decide) (by decide) h1 h2
  | 4, _ => law_run (ct_no (h := ht0) rfl) X (Nat.le_refl _) cs_4 wle_BH (by decide) (by decide) h1 h2
  | 5, _ => law_run (ct_no (h := ht0) rfl) X (Nat.le_refl _) cs_5 wle_BH (by decide) (by decide) h1 h2
  | 6, _ => law_run (ct_no (h := ht0) rfl) X (Nat.le_refl _) cs_6 wle_BH (by decide) (by decide) h1 h2
  | 7, _ => law_run (ct_no (h := ht0) rfl) X (Nat.le_refl _) cs_7 wle_BH (by decide) (by decide) h1 h2
  | 8, _ => law_run (ct_no (h := ht0) rfl) X (Nat.le_refl _) cs_8 wle_BH (by decide) (by decide) h1 h2
  | 9, _ => cover_ok (k0 := 1) (cs := [((-2147483648), (-1)), (0, 127), (128, 2147483647)]) rfl (by
      intro q q1 q2
      have q1 : (-2147483648 : Int) ≤ q := q1
      have q2 : q ≤ 2147483647 := q2
      rcases (show ((-2147483648) ≤ q ∧ q ≤ (-1)) ∨ (0 ≤ q ∧ q ≤ 127) ∨ (128 ≤ q ∧ q ≤ 2147483647) by omega) with e | e | e
      · exact ⟨((-2147483648), (-1)), by simp, e.1, e.2⟩
      · exact ⟨(0, 127), by simp, e.1, e.2⟩
      · exact ⟨(128, 2147483647), by simp, e.1, e.2⟩) (by
      intro p hp
      simp only [List.mem_cons, List.not_mem_nil, or_false] at hp
      rcases hp with e | e | e
      · subst e; exact law_run (ct_no (h := ht0) rfl) X (Nat.le_refl _) c9_a1 wle_BH (by decide) (by decide) h1 h2
      · subst e; exact cover_ok (k0 := 2) (cs := [((-2147483648), (-1)), (0, 127), (128, 2147483647)]) rfl (by
          intro q q1 q2
          have q1 : (-2147483648 : Int) ≤ q := q1
          have q2 : q ≤ 2147483647 := q2
          rcases (show ((-2147483648) ≤ q ∧ q ≤ (-1)) ∨ (0 ≤ q ∧ q ≤ 127) ∨ (128 ≤ q ∧ q ≤ 2147483647) by omega) with e | e | e
          · exact ⟨((-2147483648), (-1)), by simp, e.1, e.2⟩
          · exact ⟨(0, 127), by simp, e.1, e.2⟩
          · exact ⟨(128, 2147483647), by simp, e.1, e.2⟩) (by
          intro p hp
          simp only [List.mem_cons, List.not_mem_nil, or_false] at hp
          rcases hp with e | e | e
          · subst e; exact law_run (ct_no (h := ht0) rfl) X (Nat.le_refl _) c9_b1 wle_BH (by decide) (by decide) h1 h2
          · subst e; exact cover_ok (k0 := 3) (cs := [((-2147483648), (-2)), ((-1), 7), (8, 2147483647)]) rfl (by
              intro q q1 q2
              have q1 : (-2147483648 : Int) ≤ q := q1
              have q2 : q ≤ 2147483647 := q2
              rcases (show ((-2147483648) ≤ q ∧ q ≤ (-2)) ∨ ((-1) ≤ q ∧ q ≤ 7) ∨ (8 ≤ q ∧ q ≤ 2147483647) by omega) with e | e | e
              · exact ⟨((-2147483648), (-2)), by simp, e.1, e.2⟩
              · exact ⟨((-1), 7), by simp, e.1, e.2⟩
              · exact ⟨(8, 2147483647), by simp, e.1, e.2⟩) (by
              intro p hp
              simp only [List.mem_cons, List.not_mem_nil, or_false] at hp
              rcases hp with e | e | e
              · subst e; exact law_run (ct_no (h := ht0) rfl) X (Nat.le_refl _) c9_p1 wle_BH (by decide) (by decide) h1 h2
              · subst e; exact in9 X h1 h2
              · subst e; exact law_run (ct_no (h := ht0) rfl) X (Nat.le_refl _) c9_p2 wle_BH (by decide) (by decide) h1 h2)
          · subst e; exact law_run (ct_no (h := ht0) rfl) X (Nat.le_refl _) c9_b2 wle_BH (by decide) (by decide) h1 h2)
      · subst e; exact law_run (ct_no (h := ht0) rfl) X (Nat.le_refl _) c9_a2 wle_BH (by decide) (by decide) h1 h2)
  | 10, _ => law_run (ct_no (h := ht0) rfl) X (Nat.le_refl _) cs_10 wle_BH (by decide) (by decide) h1 h2
  | 11, _ => law_run (ct_no (h := ht0) rfl) X (Nat.le_refl _) cs_11 wle_BH (by decide) (by decide) h1 h2
  | 12, _ => cover_ok (k0 := 1) (cs := [((-2147483648), (-1)), (0, 0), (1, 1), (2, 2), (3, 3), (4, 4), (5, 5), (6, 6), (7, 7), (8, 2147483647)]) rfl (by
      intro q q1 q2
      have q1 : (-2147483648 : Int) ≤ q := q1
      have q2 : q ≤ 2147483647 := q2
      rcases (show ((-2147483648) ≤ q ∧ q ≤ (-1)) ∨ (0 ≤ q ∧ q ≤ 0) ∨ (1 ≤ q ∧ q ≤ 1) ∨ (2 ≤ q ∧ q ≤ 2) ∨ (3 ≤ q ∧ q ≤ 3) ∨ (4 ≤ q ∧ q ≤ 4) ∨ (5 ≤ q ∧ q ≤ 5) ∨ (6 ≤ q ∧ q ≤ 6) ∨ (7 ≤ q ∧ q ≤ 7) ∨ (8 ≤ q ∧ q ≤ 2147483647) by omega) with e | e | e | e | e | e | e | e | e | e
      · exact ⟨((-2147483648), (-1)), by simp, e.1, e.2⟩
      · exact ⟨(0, 0), by simp, e.1, e.2⟩
      · exact ⟨(1, 1), by simp, e.1, e.2⟩
      · exact ⟨(2, 2), by simp, e.1, e.2⟩
      · exact ⟨(3, 3), by simp, e.1, e.2⟩
      · exact ⟨(4, 4), by simp, e.1, e.2⟩
      · exact ⟨(5, 5), by simp, e.1, e.2⟩
      · exact ⟨(6, 6), by simp, e.1, e.2⟩
      · exact ⟨(7, 7), by simp, e.1, e.2⟩
      · exact ⟨(8, 2147483647), by simp, e.1, e.2⟩) (by
      intro p hp
      simp only [List.mem_cons, List.not_mem_nil, or_false] at hp
      rcases hp with e | e | e | e | e | e | e | e | e | e
      · subst e; exact law_run (ct_no (h := ht0) rfl) X (Nat.le_refl _) cs_12_0 wle_BH (by decide) (by decide) h1 h2
      · subst e; exact law_run (ct_no (h := ht0) rfl) X (Nat.le_refl _) cs_12_1 wle_BH (by decide) (by decide) h1 h2
      · subst e; exact law_run (ct_no (h := ht0) rfl) X (Nat.le_refl _) cs_12_2 wle_BH (by decide) (by decide) h1 h2
      · subst e; exact law_run (ct_no (h := ht0) rfl) X (Nat.le_refl _) cs_12_3 wle_BH (by decide) (by decide) h1 h2
      · subst e; exact law_run (ct_no (h := ht0) rfl) X (Nat.le_refl _) cs_12_4 wle_BH (by decide) (by decide) h1 h2
      · subst e; exact law_run (ct_no (h := ht0) rfl) X (Nat.le_refl _) cs_12_5 wle_BH (by decide) (by decide) h1 h2
      · subst e; exact law_run (ct_no (h := ht0) rfl) X (Nat.le_refl _) cs_12_6 wle_BH (by decide) (by decide) h1 h2
      · subst e; exact law_run (ct_no (h := ht0) rfl) X (Nat.le_refl _) cs_12_7 wle_BH (by decide) (by decide) h1 h2
      · subst e; exact law_run (ct_no (h := ht0) rfl) X (Nat.le_refl _) cs_12_8 wle_BH (by decide) (by decide) h1 h2
      · subst e; exact law_run (ct_no (h := ht0) rfl) X (Nat.le_refl _) cs_12_9 wle_BH (by decide) (by decide) h1 h2)
  | 13, _ => cover_ok (k0 := 1) (cs := [((-2147483648), (-1)), (0, 0), (1, 1), (2, 2), (3, 3), (4, 4), (5, 5), (6, 6), (7, 7), (8, 2147483647)]) rfl (by
      intro q q1 q2
      have q1 : (-2147483648 : Int) ≤ q := q1
      have q2 : q ≤ 2147483647 := q2
      rcases (show ((-2147483648) ≤ q ∧ q ≤ (-1)) ∨ (0 ≤ q ∧ q ≤ 0) ∨ (1 ≤ q ∧ q ≤ 1) ∨ (2 ≤ q ∧ q ≤ 2) ∨ (3 ≤ q ∧ q ≤ 3) ∨ (4 ≤ q ∧ q ≤ 4) ∨ (5 ≤ q ∧ q ≤ 5) ∨ (6 ≤ q ∧ q ≤ 6) ∨ (7 ≤ q ∧ q ≤ 7) ∨ (8 ≤ q ∧ q ≤ 2147483647) by omega) with e | e | e | e | e | e | e | e | e | e
      · exact ⟨((-2147483648), (-1)), by simp, e.1, e.2⟩
      · exact ⟨(0, 0), by simp, e.1, e.2⟩
      · exact ⟨(1, 1), by simp, e.1, e.2⟩
      · exact ⟨(2, 2), by simp, e.1, e.2⟩
      · exact ⟨(3, 3), by simp, e.1, e.2⟩
      · exact ⟨(4, 4), by simp, e.1, e.2⟩
      · exact ⟨(5, 5), by simp, e.1, e.2⟩
      · exact ⟨(6, 6), by simp, e.1, e.2⟩
      · exact ⟨(7, 7), by simp, e.1, e.2⟩
      · exact ⟨(8, 2147483647), by simp, e.1, e.2⟩) (by
      intro p hp
      simp only [List.mem_cons, List.not_mem_nil, or_false] at hp
      rcases hp with e | e | e | e | e | e | e | e | e | e
      · subst e; exact GS_hints (h := hA) rfl (law_run (ctA_ok X) X (Nat.le_refl _) cs_13_0 wle_BH (by decide) (by decide) h1 h2)
      · subst e; exact GS_hints (h := hA) rfl (law_run (ctA_ok X) X (Nat.le_refl _) cs_13_1 wle_BH (by decide) (by decide) h1 h2)
      · subst e; exact GS_hints (h := hA) rfl (law_run (ctA_ok X) X (Nat.le_refl _) cs_13_2 wle_BH (by decide) (by decide) h1 h2)
      · subst e; exact GS_hints (h := hA) rfl (law_run (ctA_ok X) X (Nat.le_refl _) cs_13_3 wle_BH (by decide) (by decide) h1 h2)
      · subst e; exact GS_hints (h := hA) rfl (law_run (ctA_ok X) X (Nat.le_refl _) cs_13_4 wle_BH (by decide) (by decide) h1 h2)
      · subst e; exact GS_hints (h := hA) rfl (law_run (ctA_ok X) X (Nat.le_refl _) cs_13_5 wle_BH (by decide) (by decide) h1 h2)
      · subst e; exact GS_hints (h := hA) rfl (law_run (ctA_ok X) X (Nat.le_refl _) cs_13_6 wle_BH (by decide) (by decide) h1 h2)
      · subst e; exact GS_hints (h := hA) rfl (law_run (ctA_ok X) X (Nat.le_refl _) cs_13_7 wle_BH (by decide) (by decide) h1 h2)
      · subst e; exact GS_hints (h := hA) rfl (law_run (ctA_ok X) X (Nat.le_refl _) cs_13_8 wle_BH (by decide) (by decide) h1 h2)
      · subst e; exact GS_hints (h := hA) rfl (law_run (ctA_ok X) X (Nat.le_refl _) cs_13_9 wle_BH (by decide) (by decide) h1 h2))
  | 14, _ => cover_ok (k0 := 1) (cs := [((-2147483648), (-1)), (0, 0), (1, 1), (2, 2), (3, 3), (4, 4), (5, 5), (6, 6), (7, 7), (8, 2147483647)]) rfl (by
      intro q q1 q2
      have q1 : (-2147483648 : Int) ≤ q := q1
      have q2 : q ≤ 2147483647 := q2
      rcases (show ((-2147483648) ≤ q ∧ q ≤ (-1)) ∨ (0 ≤ q ∧ q ≤ 0) ∨ (1 ≤ q ∧ q ≤ 1) ∨ (2 ≤ q ∧ q ≤ 2) ∨ (3 ≤ q ∧ q ≤ 3) ∨ (4 ≤ q ∧ q ≤ 4) ∨ (5 ≤ q ∧ q ≤ 5) ∨ (6 ≤ q ∧ q ≤ 6) ∨ (7 ≤ q ∧ q ≤ 7) ∨ (8 ≤ q ∧ q ≤ 2147483647) by omega) with e | e | e | e | e | e | e | e | e | e
      · exact ⟨((-2147483648), (-1)), by simp, e.1, e.2⟩
      · exact ⟨(0, 0), by simp, e.1, e.2⟩
      · exact ⟨(1, 1), by simp, e.1, e.2⟩
      · exact ⟨(2, 2), by simp, e.1, e.2⟩
      · exact ⟨(3, 3), by simp, e.1, e.2⟩
      · exact ⟨(4, 4), by simp, e.1, e.2⟩
      · exact ⟨(5, 5), by simp, e.1, e.2⟩
      · exact ⟨(6, 6), by simp, e.1, e.2⟩
      · exact ⟨(7, 7), by simp, e.1, e.2⟩
      · exact ⟨(8, 2147483647), by simp, e.1, e.2⟩) (by
      intro p hp
      simp only [List.mem_cons, List.not_mem_nil, or_false] at hp
      rcases hp with e | e | e | e | e | e | e | e | e | e
      · subst e; exact GS_hints (h := hA) rfl (law_run (ctA_ok X) X (Nat.le_refl _) cs_14_0 wle_BH (by decide) (by decide) h1 h2)
      · subst e; exact cover_ok (k0 := 2) (cs := [((-2147483648), (-1)), (0, 2147483647)]) rfl (by
          intro q q1 q2
          have q1 : (-2147483648 : Int) ≤ q := q1
          have q2 : q ≤ 2147483647 := q2
          rcases (show ((-2147483648) ≤ q ∧ q ≤ (-1)) ∨ (0 ≤ q ∧ q ≤ 2147483647) by omega) with e | e
          · exact ⟨((-2147483648), (-1)), by simp, e.1, e.2⟩
          · exact ⟨(0, 2147483647), by simp, e.1, e.2⟩) (by
          intro p hp
          simp only [List.mem_cons, List.not_mem_nil, or_false] at hp
          rcases hp with e | e
          · subst e; exact GS_hints (h := hA) rfl (law_run (ctA_ok X) X (Nat.le_refl _) cs_14_1_0 wle_BH (by decide) (by decide) h1 h2)
          · subst e; exact GS_hints (h := hA) rfl (law_run (ctA_ok X) X (Nat.le_refl _) cs_14_1_1 wle_BH (by decide) (by decide) h1 h2))
      · subst e; exact GS_hints (h := hA) rfl (law_run (ctA_ok X) X (Nat.le_refl _) cs_14_2 wle_BH (by decide) (by decide) h1 h2)
      · subst e; exact GS_hints (h := hA) rfl (law_run (ctA_ok X) X (Nat.le_refl _) cs_14_3 wle_BH (by decide) (by decide) h1 h2)
      · subst e; exact GS_hints (h := hA) rfl (law_run (ctA_ok X) X (Nat.le_refl _) cs_14_4 wle_BH (by decide) (by decide) h1 h2)
      · subst e; exact GS_hints (h := hA) rfl (law_run (ctA_ok X) X (Nat.le_refl _) cs_14_5 wle_BH (by decide) (by decide) h1 h2)
      · subst e; exact GS_hints (h := hA) rfl (law_run (ctA_ok X) X (Nat.le_refl _) cs_14_6 wle_BH (by decide) (by decide) h1 h2)
      · subst e; exact GS_hints (h := hA) rfl (law_run (ctA_ok X) X (Nat.le_refl _) cs_14_7 wle_BH (by decide) (by decide) h1 h2)
      · subst e; exact GS_hints (h := hA) rfl (law_run (ctA_ok X) X (Nat.le_refl _) cs_14_8 wle_BH (by decide) (by decide) h1 h2)
      · subst e; exact GS_hints (h := hA) rfl (law_run (ctA_ok X) X (Nat.le_refl _) cs_14_9 wle_BH (by decide) (by decide) h1 h2))
  | 15, _ => law_run (ct_no (h := ht0) rfl) X (Nat.le_refl _) cs_15 wle_BH (by decide) (by decide) h1 h2
  | 16, _ => law_run (ct_no (h := ht0) rfl) X (Nat.le_refl _) cs_16 wle_BH (by decide) (by decide) h1 h2
  | 17, _ => cover_ok (k0 := 1) (cs := [((-2147483648), (-1)), (0, 0), (1, 1), (2, 2), (3, 3), (4, 4), (5, 5), (6, 6), (7, 7), (8, 2147483647)]) rfl (by
      intro q q1 q2
      have q1 : (-2147483648 : Int) ≤ q := q1
      have q2 : q ≤ 2147483647 := q2
      rcases (show ((-2147483648) ≤ q ∧ q ≤ (-1)) ∨ (0 ≤ q ∧ q ≤ 0) ∨ (1 ≤ q ∧ q ≤ 1) ∨ (2 ≤ q ∧ q ≤ 2) ∨ (3 ≤ q ∧ q ≤ 3) ∨ (4 ≤ q ∧ q ≤ 4) ∨ (5 ≤ q ∧ q ≤ 5) ∨ (6 ≤ q ∧ q ≤ 6) ∨ (7 ≤ q ∧ q ≤ 7) ∨ (8 ≤ q ∧ q ≤ 2147483647) by omega) with e | e | e | e | e | e | e | e | e | e
      · exact ⟨((-2147483648), (-1)), by simp, e.1, e.2⟩
      · exact ⟨(0, 0), by simp, e.1, e.2⟩
      · exact ⟨(1, 1), by simp, e.1, e.2⟩
      · exact ⟨(2, 2), by simp, e.1, e.2⟩
      · exact ⟨(3, 3), by simp, e.1, e.2⟩
      · exact ⟨(4, 4), by simp, e.1, e.2⟩
      · exact ⟨(5, 5), by simp, e.1, e.2⟩
      · exact ⟨(6, 6), by simp, e.1, e.2⟩
      · exact ⟨(7, 7), by simp, e.1, e.2⟩
      · exact ⟨(8, 2147483647), by simp, e.1, e.2⟩) (by
      intro p hp
      simp only [List.mem_cons, List.not_mem_nil, or_false] at hp
      rcases hp with e | e | e | e | e | e | e | e | e | e
      · subst e; exact law_run (ct_no (h := ht0) rfl) X (Nat.le_refl _) cs_17_0 wle_BH (by decide) (by decide) h1 h2
      · subst e; exact law_run (ct_no (h := ht0) rfl) X (Nat.le_refl _) cs_17_1 wle_BH (by decide) (by decide) h1 h2
      · subst e; exact law_run (ct_no (h := ht0) rfl) X (Nat.le_refl _) cs_17_2 wle_BH (by decide) (by decide) h1 h2
      · subst e; exact law_run (ct_no (h := ht0) rfl) X (Nat.le_refl _) cs_17_3 wle_BH (by decide) (by decide) h1 h2
      · subst e; exact law_run (ct_no (h := ht0) rfl) X (Nat.le_refl _) cs_17_4 wle_BH (by decide) (by decide) h1 h2
      · subst e; exact law_run (ct_no (h := ht0) rfl) X (Nat.le_refl _) cs_17_5 wle_BH (by decide) (by decide) h1 h2
      · subst e; exact law_run (ct_no (h := ht0) rfl) X (Nat.le_refl _) cs_17_6 wle_BH (by decide) (by decide) h1 h2
      · subst e; exact law_run (ct_no (h := ht0) rfl) X (Nat.le_refl _) cs_17_7 wle_BH (by decide) (by decide) h1 h2
      · subst e; exact law_run (ct_no (h := ht0) rfl) X (Nat.le_refl _) cs_17_8 wle_BH (by decide) (by decide) h1 h2
      · subst e; exact law_run (ct_no (h := ht0) rfl) X (Nat.le_refl _) cs_17_9 wle_BH (by decide) (by decide) h1 h2)
  | 18, _ => GS_hints (h := hA) rfl (law_run (ctA_ok X) X (Nat.le_refl _) cs_18 wle_BH (by decide) (by decide) h1 h2)
  | 19, _ => law_run (ct_no (h := ht0) rfl) X (Nat.le_refl _) cs_19 wle_BH (by decide) (by decide) h1 h2
  | 20, _ => GS_hints (h := hA) rfl (law_run (ctA_ok X) X (Nat.le_refl _) cs_20 wle_BH (by decide) (by decide) h1 h2)
  | 21, _ => GS_hints (h := hA) rfl (law_run (ctA_ok X) X (Nat.le_refl _) cs_21 wle_BH (by decide) (by decide) h1 h2)
  | 22, _ => law_run (ct_no (h := ht0) rfl) X (Nat.le_refl _) cs_22 wle_BH (by decide) (by decide) h1 h2
  | 23, _ => law_run (ct_no (h := ht0) rfl) X (Nat.le_refl _) cs_23 wle_BH (by decide) (by decide) h1 h2
  | 24, _ => law_run (ct_no (h := ht0) rfl) X (Nat.le_refl _) cs_24 wle_BH (by decide) (by decide) h1 h2
  | 25, _ => law_run (ct_no (h := ht0) rfl) X (Nat.le_refl _) cs_25 wle_BH (by decide) (by decide) h1 h2
  | 26, _ => law_run (ct_no (h := ht0) rfl) X (Nat.le_refl _) cs_26 wle_BH (by decide) (by decide) h1 h2
  | 27, _ => law_run (ct_no (h := ht0) rfl) X (Nat.le_refl _) cs_27 wle_BH (by decide) (by decide) h1 h2
  | 28, _ => law_run (ct_no (h := ht0) rfl) X (Nat.le_refl _) cs_28 wle_BH (by decide) (by decide) h1 h2
  | 29, _ => law_run (ct_no (h := ht0) rfl) X (Nat.le_refl _) cs_29 wle_BH (by decide) (by decide) h1 h2
  | 30, _ => law_run (ct_no (h := ht0) rfl) X (Nat.le_refl _) cs_30 wle_BH (by decide) (by decide) h1 h2
  | 31, _ => law_run (ct_no (h := ht0) rfl) X (Nat.le_refl _) cs_31 wle_BH (by decide) (by decide) h1 h2
  | 32, _ => law_run (ct_no (h := ht0) rfl) X (Nat.le_refl _) cs_32 wle_BH (by decide) (by decide) h1 h2
  | 33, _ => law_run (ct_no (h := ht0) rfl) X (Nat.le_refl _) cs_33 wle_BH (by decide) (by decide) h1 h2
  | 34, _ => law_run (ct_no (h := ht0) rfl) X (Nat.le_refl _) cs_34 wle_BH (by decide) (by decide) h1 h2
  | 35, _ => law_run (ct_no (h := ht0) rfl) X (Nat.le_refl _) cs_35 wle_BH (by decide) (by decide) h1 h2
  | 36, _ => cover_ok (k0 := 1) (cs := [((-2147483648), (-1)), (0, 0), (1, 1), (2, 2), (3, 3), (4, 4), (5, 5), (6, 6), (7, 7), (8, 2147483647)]) rfl (by
      intro q q1 q2
      have q1 : (-2147483648 : Int) ≤ q := q1
      have q2 : q ≤ 2147483647 := q2
      rcases (show ((-2147483648) ≤ q ∧ q ≤ (-1)) ∨ (0 ≤ q ∧ q ≤ 0) ∨ (1 ≤ q ∧ q ≤ 1) ∨ (2 ≤ q ∧ q ≤ 2) ∨ (3 ≤ q ∧ q ≤ 3) ∨ (4 ≤ q ∧ q ≤ 4) ∨ (5 ≤ q ∧ q ≤ 5) ∨ (6 ≤ q ∧ q ≤ 6) ∨ (7 ≤ q ∧ q ≤ 7) ∨ (8 ≤ q ∧ q ≤ 2147483647) by omega) with e | e | e | e | e | e | e | e | e | e
      · exact ⟨((-2147483648), (-1)), by simp, e.1, e.2⟩
      · exact ⟨(0, 0), by simp, e.1, e.2⟩
      · exact ⟨(1, 1), by simp, e.1, e.2⟩
      · exact ⟨(2, 2), by simp, e.1, e.2⟩
      · exact ⟨(3, 3), by simp, e.1, e.2⟩
      · exact ⟨(4, 4), by simp, e.1, e.2⟩
      · exact ⟨(5, 5), by simp, e.1, e.2⟩
      · exact ⟨(6, 6), by simp, e.1, e.2⟩
      · exact ⟨(7, 7), by simp, e.1, e.2⟩
      · exact ⟨(8, 2147483647), by simp, e.1, e.2⟩) (by
      intro p hp
      simp only [List.mem_cons, List.not_mem_nil, or_false] at hp
      rcases hp with e | e | e | e | e | e | e | e | e | e
      · subst e; exact law_run (ct_no (h := ht0) rfl) X (Nat.le_refl _) cs_36_0 wle_BH (by decide) (by decide) h1 h2
      · subst e; exact law_run (ct_no (h := ht0) rfl) X (Nat.le_refl _) cs_36_1 wle_BH (by decide) (by decide) h1 h2
      · subst e; exact law_run (ct_no (h := ht0) rfl) X (Nat.le_refl _) cs_36_2 wle_BH (by decide) (by decide) h1 h2
      · subst e; exact law_run (ct_no (h := ht0) rfl) X (Nat.le_refl _) cs_36_3 wle_BH (by decide) (by decide) h1 h2
      · subst e; exact law_run (ct_no (h := ht0) rfl) X (Nat.le_refl _) cs_36_4 wle_BH (by decide) (by decide) h1 h2
      · subst e; exact law_run (ct_no (h := ht0) rfl) X (Nat.le_refl _) cs_36_5 wle_BH (by decide) (by decide) h1 h2
      · subst e; exact law_run (ct_no (h := ht0) rfl) X (Nat.le_refl _) cs_36_6 wle_BH (by decide) (by decide) h1 h2
      · subst e; exact law_run (ct_no (h := ht0) rfl) X (Nat.le_refl _) cs_36_7 wle_BH (by decide) (by decide) h1 h2
      · subst e; exact law_run (ct_no (h := ht0) rfl) X (Nat.le_refl _) cs_36_8 wle_BH (by decide) (by decide) h1 h2
      · subst e; exact law_run (ct_no (h := ht0) rfl) X (Nat.le_refl _) cs_36_9 wle_BH (by decide) (by decide) h1 h2)
  | 37, _ => law_run (ct_no (h := ht0) rfl) X (Nat.le_refl _) cs_37 wle_BH (by decide) (by decide) h1 h2
  | 38, _ => cover_ok (k0 := 1) (cs := [((-2147483648), (-1)), (0, 0), (1, 1), (2, 2), (3, 3), (4, 4), (5, 5), (6, 6), (7, 7), (8, 2147483647)]) rfl (by
      intro q q1 q2
      have q1 : (-2147483648 : Int) ≤ q := q1
      have q2 : q ≤ 2147483647 := q2
      rcases (show ((-2147483648) ≤ q ∧ q ≤ (-1)) ∨ (0 ≤ q ∧ q ≤ 0) ∨ (1 ≤ q ∧ q ≤ 1) ∨ (2 ≤ q ∧ q ≤ 2) ∨ (3 ≤ q ∧ q ≤ 3) ∨ (4 ≤ q ∧ q ≤ 4) ∨ (5 ≤ q ∧ q ≤ 5) ∨ (6 ≤ q ∧ q ≤ 6) ∨ (7 ≤ q ∧ q ≤ 7) ∨ (8 ≤ q ∧ q ≤ 2147483647) by omega) with e | e | e | e | e | e | e | e | e | e
      · exact ⟨((-2147483648), (-1)), by simp, e.1, e.2⟩
      · exact ⟨(0, 0), by simp, e.1, e.2⟩
      · exact ⟨(1, 1), by simp, e.1, e.2⟩
      · exact ⟨(2, 2), by simp, e.1, e.2⟩
      · exact ⟨(3, 3), by simp, e.1, e.2⟩
      · exact ⟨(4, 4), by simp, e.1, e.2⟩
      · exact ⟨(5, 5), by simp, e.1, e.2⟩
      · exact ⟨(6, 6), by simp, e.1, e.2⟩
      · exact ⟨(7, 7), by simp, e.1, e.2⟩
      · exact ⟨(8, 2147483647), by simp, e.1, e.2⟩) (by
      intro p hp
      simp only [List.mem_cons, List.not_mem_nil, or_false] at hp
      rcases hp with e | e | e | e | e | e | e | e | e | e
      · subst e; exact law_run (ct_no (h := ht0) rfl) X (Nat.le_refl _) cs_38_0 wle_BH (by decide) (by decide) h1 h2
      · subst e; exact law_run (ct_no (h := ht0) rfl) X (Nat.le_refl _) cs_38_1 wle_BH (by decide) (by decide) h1 h2
      · subst e; exact law_run (ct_no (h := ht0) rfl) X (Nat.le_refl _) cs_38_2 wle_BH (by decide) (by decide) h1 h2
      · subst e; exact law_run (ct_no (h := ht0) rfl) X (Nat.le_refl _) cs_38_3 wle_BH (by decide) (by decide) h1 h2
      · subst e; exact law_run (ct_no (h := ht0) rfl) X (Nat.le_refl _) cs_38_4 wle_BH (by decide) (by decide) h1 h2
      · subst e; exact law_run (ct_no (h := ht0) rfl) X (Nat.le_refl _) cs_38_5 wle_BH (by decide) (by decide) h1 h2
      · subst e; exact law_run (ct_no (h := ht0) rfl) X (Nat.le_refl _) cs_38_6 wle_BH (by decide) (by decide) h1 h2
      · subst e; exact law_run (ct_no (h := ht0) rfl) X (Nat.le_refl _) cs_38_7 wle_BH (by decide) (by decide) h1 h2
      · subst e; exact law_run (ct_no (h := ht0) rfl) X (Nat.le_refl _) cs_38_8 wle_BH (by decide) (by decide) h1 h2
      · subst e; exact law_run (ct_no (h := ht0) rfl) X (Nat.le_refl _) cs_38_9 wle_BH (by decide) (by decide) h1 h2)
  | 39, _ => cover_ok (k0 := 2) (cs := [((-2147483648), (-1)), (0, 0), (1, 1), (2, 2), (3, 3), (4, 4), (5, 5), (6, 6), (7, 7), (8, 2147483647)]) rfl (by
      intro q q1 q2
      have q1 : (-2147483648 : Int) ≤ q := q1
      have q2 : q ≤ 2147483647 := q2
      rcases (show ((-2147483648) ≤ q ∧ q ≤ (-1)) ∨ (0 ≤ q ∧ q ≤ 0) ∨ (1 ≤ q ∧ q ≤ 1) ∨ (2 ≤ q ∧ q ≤ 2) ∨ (3 ≤ q ∧ q ≤ 3) ∨ (4 ≤ q ∧ q ≤ 4) ∨ (5 ≤ q ∧ q ≤ 5) ∨ (6 ≤ q ∧ q ≤ 6) ∨ (7 ≤ q ∧ q ≤ 7) ∨ (8 ≤ q ∧ q ≤ 2147483647) by omega) with e | e | e | e | e | e | e | e | e | e
      · exact ⟨((-2147483648), (-1)), by simp, e.1, e.2⟩
      · exact ⟨(0, 0), by simp, e.1, e.2⟩
      · exact ⟨(1, 1), by simp, e.1, e.2⟩
      · exact ⟨(2, 2), by simp, e.1, e.2⟩
      · exact ⟨(3, 3), by simp, e.1, e.2⟩
      · exact ⟨(4, 4), by simp, e.1, e.2⟩
      · exact ⟨(5, 5), by simp, e.1, e.2⟩
      · exact ⟨(6, 6), by simp, e.1, e.2⟩
      · exact ⟨(7, 7), by simp, e.1, e.2⟩
      · exact ⟨(8, 2147483647), by simp, e.1, e.2⟩) (by
      intro p hp
      simp only [List.mem_cons, List.not_mem_nil, or_false] at hp
      rcases hp with e | e | e | e | e | e | e | e | e | e
      · subst e; exact law_run (ct_no (h := ht0) rfl) X (Nat.le_refl _) cs_39_0 wle_BH (by decide) (by decide) h1 h2
      · subst e; exact law_run (ct_no (h := ht0) rfl) X (Nat.le_refl _) cs_39_1 wle_BH (by decide) (by decide) h1 h2
      · subst e; exact GS_hints (h := h39) rfl (law_run (ct_no (h := h39) rfl) X (Nat.le_refl _) cs_39_2 wle_BH (by decide) (by decide) h1 h2)
      · subst e; exact GS_hints (h := h39) rfl (law_run (ct_no (h := h39) rfl) X (Nat.le_refl _) cs_39_3 wle_BH (by decide) (by decide) h1 h2)
      · subst e; exact GS_hints (h := h39) rfl (law_run (ct_no (h := h39) rfl) X (Nat.le_refl _) cs_39_4 wle_BH (by decide) (by decide) h1 h2)
      · subst e; exact GS_hints (h := h39) rfl (law_run (ct_no (h := h39) rfl) X (Nat.le_refl _) cs_39_5 wle_BH (by decide) (by decide) h1 h2)
      · subst e; exact GS_hints (h := h39) rfl (law_run (ct_no (h := h39) rfl) X (Nat.le_refl _) cs_39_6 wle_BH (by decide) (by decide) h1 h2)
      · subst e; exact GS_hints (h := h39) rfl (law_run (ct_no (h := h39) rfl) X (Nat.le_refl _) cs_39_7 wle_BH (by decide) (by decide) h1 h2)
      · subst e; exact GS_hints (h := h39) rfl (law_run (ct_no (h := h39) rfl) X (Nat.le_refl _) cs_39_8 wle_BH (by decide) (by decide) h1 h2)
      · subst e; exact law_run (ct_no (h := ht0) rfl) X (Nat.le_refl _) cs_39_9 wle_BH (by decide) (by decide) h1 h2)
  | 40, _ => law_run (ct_no (h := ht0) rfl) X (Nat.le_refl _) cs_40 wle_BH (by decide) (by decide) h1 h2
  | 41, _ => law_run (ct_no (h := ht0) rfl) X (Nat.le_refl _) cs_41 wle_BH (by decide) (by decide) h1 h2
  | 42, _ => law_run (ct_no (h := ht0) rfl) X (Nat.le_refl _) cs_42 wle_BH (by decide) (by decide) h1 h2
  | 43, _ => law_run (ct_no (h := ht0) rfl) X (Nat.le_refl _) cs_43 wle_BH (by decide) (by decide) h1 h2
  | n + 44, h => absurd h (by omega)
theorem head_0 (X : LX k dT a0 b 0 xs) : HeadOK k dT b 0 xs := fun v _ h1 _ => by
  obtain ⟨⟨C, Z, hT, hN, e1, e2, e3, e4⟩, ⟨e5, e6, e7, e8⟩, X1, X2, X3⟩ := X
  have d : ∀ {pc : Nat} {q : Instr × Nat}, decode code pc = .ok q → decode (kCc k) pc = .ok q := fun h => by rw [e3]; exact h
  refine w_iload C (i := 4) (x := Int32.ofInt 0) (d (by decide +kernel)) (cL_mem.mpr ⟨aI 0, rfl, rfl⟩) ?_
  refine w_aload_n C (i := 0) (x := b) (d (by decide +kernel)) (cL_mem.mpr ⟨aX 0, rfl, by rw [← h1]; rfl⟩) ?_
  refine w_slen C X1 X2 X3 (d (by decide +kernel)) ?_
  refine w_bipush C (n := 6) (z := 6) (d (by decide +kernel)) (by decide) ?_
  refine w_isub C (d (by decide +kernel)) ?_
  refine w_icmp_gt C (off := 2830) (t := 2860) (d (by decide +kernel)) (by decide) (fun _ => ?_) (fun h => absurd (by decide) h)
  refine w_iconst C (n := 1) (d (by decide +kernel)) ?_
  exact w_iret C e8 e5 rfl (d (by decide +kernel)) (by decide) (by decide) rfl
theorem head_ok {L : Nat} (X : LX k dT a0 b L xs) (hL : L ≤ 6) : HeadOK k dT b L xs := by
  by_cases h0 : L = 0
  · subst h0; exact head_0 X
  refine head_of (h0 := ht0) X (fun v hv h1 h2 => ?_)
  match L, X, hL, h2, h0 with
  | 0, _, _, _, h0 => exact absurd rfl h0
  | 1, X, hL, h2, _ => exact law_run (ct_no (h := ht0) rfl) X hL rn_1 wle_BH (by decide) (by decide) h1 h2
  | 2, X, hL, h2, _ => exact law_run (ct_no (h := ht0) rfl) X hL rn_2 wle_BH (by decide) (by decide) h1 h2
  | 3, X, hL, h2, _ => exact law_run (ct_no (h := ht0) rfl) X hL rn_3 wle_BH (by decide) (by decide) h1 h2
  | 4, X, hL, h2, _ => exact law_run (ct_no (h := ht0) rfl) X hL rn_4 wle_BH (by decide) (by decide) h1 h2
  | 5, X, hL, h2, _ => exact law_run (ct_no (h := ht0) rfl) X hL rn_5 wle_BH (by decide) (by decide) h1 h2
  | 6, X, hL, h2, _ =>
    refine law_seg (ct_no (h := ht0) rfl) X hL sg_6 (fun t ht => ?_) wle_BH (by decide) (by decide) h1 h2
    unfold swStop at ht
    rw [Bool.and_eq_true] at ht
    obtain ⟨z, hz, e⟩ := List.any_eq_true.mp ht.2
    have e := swE2_ok e
    subst e
    exact case_ok X h1 h2 z (List.mem_range.mp hz)
  | n + 7, _, h, _, _ => omega
end WH
