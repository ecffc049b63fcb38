/-! Steps: numbers, stack, branches -/
section ST2
variable {k : kx_T} {x : ACx} {mn c : Nat} {dT : Nat → ClassId} {w0 : AW} {v0 : VL} {s : AS} {v : VL} {Rs : List AR}
theorem oI_ok {len : Nat} {q : Option (AW × AV)} {r : List AV} (so : SO k x mn c dT w0 v0 Rs (oI s len q r)) : ∃ p, q = some p ∧ GS k x mn c dT w0 v0 (sGoW s (sPc s + len) (p.2 :: r) p.1) := by
  cases q with
  | none => exact SO_no so
  | some p => exact ⟨p, rfl, SO_one so⟩
theorem bin_ok {op : Nat} (so : SO k x mn c dT w0 v0 Rs (oBin s op)) (I : Inv k x mn c dT w0 v0 s v) : ∃ a b r, sSt s = b :: a :: r ∧ cv v b = .int (cZ v b) ∧ cv v a = .int (cZ v a) ∧ op ≤ 10 ∧ (op = 3 ∨ op = 4 → ¬ cZ v b = 0) ∧ WS k (sPc s + 1) (cL v (sLv s)) (.int (iV op (cZ v a) (cZ v b)) :: r.map (cv v)) (cW v dT (xB x) (wH (sW s))) (sC s) (sS s) := by
  obtain ⟨pc, lv, st, w, lp, ce, sl⟩ := s
  cases st with
  | nil => exact SO_no so
  | cons b t =>
    cases t with
    | nil => exact SO_no so
    | cons a r =>
      obtain ⟨p, h1, h2⟩ := oI_ok (s := (pc, lv, b :: a :: r, w, lp, ce, sl)) (len := 1) (q := iop w op (aNm (wE w) a) (aNm (wE w) b)) (r := r) so
      have hE : okE v (wE w) := I.2.2.1.1
      obtain ⟨g1, g2, g3, g4, g5⟩ := iop_ok (B := xB x) h1
      rw [aNm_isI] at g1 g2
      refine ⟨a, b, r, rfl, cv_int g2, cv_int g1, g3, fun q => ?_, ?_⟩
      · have := g4 q v I.2.2.1
        rw [aNm_cZ hE] at this
        exact this
      · have := gs_fr (s := (pc, lv, b :: a :: r, w, lp, ce, sl)) g5 h2 I (sc_tl (sc_tl I.2.2.2.2.1))
        simp only [aNm_cZ hE] at this
        exact this
theorem g_iadd (C : kx_ok k) (d : decode (kCc k) (sPc s) = .ok (.iadd, 1)) (so : SO k x mn c dT w0 v0 Rs (oBin s 0)) : GS k x mn c dT w0 v0 s := fun v I => by
  obtain ⟨a, b, r, e, h1, h2, -, h3, h4⟩ := bin_ok so I
  rw [e, List.map_cons, List.map_cons, h1, h2]
  exact w_iadd C d h4
theorem g_isub (C : kx_ok k) (d : decode (kCc k) (sPc s) = .ok (.isub, 1)) (so : SO k x mn c dT w0 v0 Rs (oBin s 1)) : GS k x mn c dT w0 v0 s := fun v I => by
  obtain ⟨a, b, r, e, h1, h2, -, h3, h4⟩ := bin_ok so I
  rw [e, List.map_cons, List.map_cons, h1, h2]
  exact w_isub C d h4
theorem g_imul (C : kx_ok k) (d : decode (kCc k) (sPc s) = .ok (.imul, 1)) (so : SO k x mn c dT w0 v0 Rs (oBin s 2)) : GS k x mn c dT w0 v0 s := fun v I => by
  obtain ⟨a, b, r, e, h1, h2, -, h3, h4⟩ := bin_ok so I
  rw [e, List.map_cons, List.map_cons, h1, h2]
  exact w_imul C d h4
theorem g_idiv (C : kx_ok k) (d : decode (kCc k) (sPc s) = .ok (.idiv, 1)) (so : SO k x mn c dT w0 v0 Rs (oBin s 3)) : GS k x mn c dT w0 v0 s := fun v I => by
  obtain ⟨a, b, r, e, h1, h2, -, h3, h4⟩ := bin_ok so I
  rw [e, List.map_cons, List.map_cons, h1, h2]
  exact w_idiv C d (h3 (by decide)) h4
theorem g_irem (C : kx_ok k) (d : decode (kCc k) (sPc s) = .ok (.irem, 1)) (so : SO k x mn c dT w0 v0 Rs (oBin s 4)) : GS k x mn c dT w0 v0 s := fun v I => by
  obtain ⟨a, b, r, e, h1, h2, -, h3, h4⟩ := bin_ok so I
  rw [e, List.map_cons, List.map_cons, h1, h2]
  exact w_irem C d (h3 (by decide)) h4
theorem g_iand (C : kx_ok k) (d : decode (kCc k) (sPc s) = .ok (.iand, 1)) (so : SO k x mn c dT w0 v0 Rs (oBin s 5)) : GS k x mn c dT w0 v0 s := fun v I => by
  obtain ⟨a, b, r, e, h1, h2, -, h3, h4⟩ := bin_ok so I
  rw [e, List.map_cons, List.map_cons, h1, h2]
  exact w_iand C d h4
theorem g_ior (C : kx_ok k) (d : decode (kCc k) (sPc s) = .ok (.ior, 1)) (so : SO k x mn c dT w0 v0 Rs (oBin s 6)) : GS k x mn c dT w0 v0 s := fun v I => by
  obtain ⟨a, b, r, e, h1, h2, -, h3, h4⟩ := bin_ok so I
  rw [e, List.map_cons, List.map_cons, h1, h2]
  exact w_ior C d h4
theorem g_ixor (C : kx_ok k) (d : decode (kCc k) (sPc s) = .ok (.ixor, 1)) (so : SO k x mn c dT w0 v0 Rs (oBin s 7)) : GS k x mn c dT w0 v0 s := fun v I => by
  obtain ⟨a, b, r, e, h1, h2, -, h3, h4⟩ := bin_ok so I
  rw [e, List.map_cons, List.map_cons, h1, h2]
  exact w_ixor C d h4
theorem g_ishl (C : kx_ok k) (d : decode (kCc k) (sPc s) = .ok (.ishl, 1)) (so : SO k x mn c dT w0 v0 Rs (oBin s 8)) : GS k x mn c dT w0 v0 s := fun v I => by
  obtain ⟨a, b, r, e, h1, h2, -, h3, h4⟩ := bin_ok so I
  rw [e, List.map_cons, List.map_cons, h1, h2]
  exact w_ishl C d h4
theorem g_ishr (C : kx_ok k) (d : decode (kCc k) (sPc s) = .ok (.ishr, 1)) (so : SO k x mn c dT w0 v0 Rs (oBin s 9)) : GS k x mn c dT w0 v0 s := fun v I => by
  obtain ⟨a, b, r, e, h1, h2, -, h3, h4⟩ := bin_ok so I
  rw [e, List.map_cons, List.map_cons, h1, h2]
  exact w_ishr C d h4
theorem g_iushr (C : kx_ok k) (d : decode (kCc k) (sPc s) = .ok (.iushr, 1)) (so : SO k x mn c dT w0 v0 Rs (oBin s 10)) : GS k x mn c dT w0 v0 s := fun v I => by
  obtain ⟨a, b, r, e, h1, h2, -, h3, h4⟩ := bin_ok so I
  rw [e, List.map_cons, List.map_cons, h1, h2]
  exact w_iushr C d h4
theorem g_ineg (C : kx_ok k) (d : decode (kCc k) (sPc s) = .ok (.ineg, 1)) (so : SO k x mn c dT w0 v0 Rs (fNeg x (fun _ _ _ _ => none) mn c s)) : GS k x mn c dT w0 v0 s := fun v I => by
  obtain ⟨pc, lv, st, w, lp, ce, sl⟩ := s
  cases st with
  | nil => exact SO_no so
  | cons b r =>
    obtain ⟨p, h1, h2⟩ := oI_ok (s := (pc, lv, b :: r, w, lp, ce, sl)) (len := 1) (q := iop w 1 (aI 0) (aNm (wE w) b)) (r := r) so
    have hE : okE v (wE w) := I.2.2.1.1
    obtain ⟨-, g2, -, -, g5⟩ := iop_ok (B := xB x) h1
    rw [aNm_isI] at g2
    have := gs_fr (s := (pc, lv, b :: r, w, lp, ce, sl)) g5 h2 I (sc_tl I.2.2.2.2.1)
    simp only [aNm_cZ hE] at this
    have e : iV 1 (cZ v (aI 0)) (cZ v b) = - cZ v b := by
      show (0 : Int32) - cZ v b = _
      exact Int32.zero_sub _
    rw [e] at this
    show WS k pc _ (cv v b :: r.map (cv v)) _ _ _
    rw [cv_int g2]
    exact w_ineg C d this
theorem bil_ok {op : Nat} (so : SO k x mn c dT w0 v0 Rs (oBil s op)) (I : Inv k x mn c dT w0 v0 s v) : ∃ a b r, sSt s = b :: a :: r ∧ cv v b = .long (cQ v b) ∧ cv v a = .long (cQ v a) ∧ WS k (sPc s + 1) (cL v (sLv s)) (.long (lV op (cQ v a) (cQ v b)) :: r.map (cv v)) (cW v dT (xB x) (wH (sW s))) (sC s) (sS s) := by
  obtain ⟨pc, lv, st, w, lp, ce, sl⟩ := s
  cases st with
  | nil => exact SO_no so
  | cons b t =>
    cases t with
    | nil => exact SO_no so
    | cons a r =>
      obtain ⟨p, h1, h2⟩ := oI_ok (s := (pc, lv, b :: a :: r, w, lp, ce, sl)) (len := 1) (q := lop w op a b) (r := r) so
      obtain ⟨g1, g2, g3, g5⟩ := lop_ok (B := xB x) h1
      exact ⟨a, b, r, rfl, cv_long g2, cv_long g1, gs_fr (s := (pc, lv, b :: a :: r, w, lp, ce, sl)) g5 h2 I (sc_tl (sc_tl I.2.2.2.2.1))⟩
theorem g_ladd (C : kx_ok k) (d : decode (kCc k) (sPc s) = .ok (.ladd, 1)) (so : SO k x mn c dT w0 v0 Rs (oBil s 0)) : GS k x mn c dT w0 v0 s := fun v I => by
  obtain ⟨a, b, r, e, h1, h2, h4⟩ := bil_ok so I
  rw [e, List.map_cons, List.map_cons, h1, h2]
  exact w_ladd C d h4
theorem g_lsub (C : kx_ok k) (d : decode (kCc k) (sPc s) = .ok (.lsub, 1)) (so : SO k x mn c dT w0 v0 Rs (oBil s 1)) : GS k x mn c dT w0 v0 s := fun v I => by
  obtain ⟨a, b, r, e, h1, h2, h4⟩ := bil_ok so I
  rw [e, List.map_cons, List.map_cons, h1, h2]
  exact w_lsub C d h4
theorem g_land (C : kx_ok k) (d : decode (kCc k) (sPc s) = .ok (.land, 1)) (so : SO k x mn c dT w0 v0 Rs (oBil s 2)) : GS k x mn c dT w0 v0 s := fun v I => by
  obtain ⟨a, b, r, e, h1, h2, h4⟩ := bil_ok so I
  rw [e, List.map_cons, List.map_cons, h1, h2]
  exact w_land C d h4
theorem g_lor (C : kx_ok k) (d : decode (kCc k) (sPc s) = .ok (.lor, 1)) (so : SO k x mn c dT w0 v0 Rs (oBil s 3)) : GS k x mn c dT w0 v0 s := fun v I => by
  obtain ⟨a, b, r, e, h1, h2, h4⟩ := bil_ok so I
  rw [e, List.map_cons, List.map_cons, h1, h2]
  exact w_lor C d h4
theorem g_lxor (C : kx_ok k) (d : decode (kCc k) (sPc s) = .ok (.lxor, 1)) (so : SO k x mn c dT w0 v0 Rs (oBil s 4)) : GS k x mn c dT w0 v0 s := fun v I => by
  obtain ⟨a, b, r, e, h1, h2, h4⟩ := bil_ok so I
  rw [e, List.map_cons, List.map_cons, h1, h2]
  exact w_lxor C d h4
theorem g_lneg (C : kx_ok k) (d : decode (kCc k) (sPc s) = .ok (.lneg, 1)) (so : SO k x mn c dT w0 v0 Rs (fLng x (fun _ _ _ _ => none) mn c s)) : GS k x mn c dT w0 v0 s := fun v I => by
  obtain ⟨pc, lv, st, w, lp, ce, sl⟩ := s
  cases st with
  | nil => exact SO_no so
  | cons b r =>
    obtain ⟨p, h1, h2⟩ := oI_ok (s := (pc, lv, b :: r, w, lp, ce, sl)) (len := 1) (q := lop w 1 (aJ 0) b) (r := r) so
    obtain ⟨-, g2, -, g5⟩ := lop_ok (B := xB x) h1
    have := gs_fr (s := (pc, lv, b :: r, w, lp, ce, sl)) g5 h2 I (sc_tl I.2.2.2.2.1)
    have e : lV 1 (cQ v (aJ 0)) (cQ v b) = - cQ v b := by
      show (0 : Int64) - cQ v b = _
      exact Int64.zero_sub _
    rw [e] at this
    show WS k pc _ (cv v b :: r.map (cv v)) _ _ _
    rw [cv_long g2]
    exact w_lneg C d this
theorem lsh_ok {left : Bool} (so : SO k x mn c dT w0 v0 Rs (fLsh left x (fun _ _ _ _ => none) mn c s)) (I : Inv k x mn c dT w0 v0 s v) : ∃ a b r, sSt s = b :: a :: r ∧ cv v b = .int (cZ v b) ∧ cv v a = .long (cQ v a) ∧ WS k (sPc s + 1) (cL v (sLv s)) (.long (shV left (cQ v a) (cZ v b)) :: r.map (cv v)) (cW v dT (xB x) (wH (sW s))) (sC s) (sS s) := by
  obtain ⟨pc, lv, st, w, lp, ce, sl⟩ := s
  cases st with
  | nil => exact SO_no so
  | cons b t =>
    cases t with
    | nil => exact SO_no so
    | cons a r =>
      obtain ⟨p, h1, h2⟩ := oI_ok (s := (pc, lv, b :: a :: r, w, lp, ce, sl)) (len := 1) (q := lSh w left a (aNm (wE w) b)) (r := r) so
      have hE : okE v (wE w) := I.2.2.1.1
      obtain ⟨g1, g2, g5⟩ := lSh_ok (B := xB x) h1
      rw [aNm_isI] at g2
      have := gs_fr (s := (pc, lv, b :: a :: r, w, lp, ce, sl)) g5 h2 I (sc_tl (sc_tl I.2.2.2.2.1))
      simp only [aNm_cZ hE] at this
      exact ⟨a, b, r, rfl, cv_int g2, cv_long g1, this⟩
theorem g_lshl (C : kx_ok k) (d : decode (kCc k) (sPc s) = .ok (.lshl, 1)) (so : SO k x mn c dT w0 v0 Rs (fLsh true x (fun _ _ _ _ => none) mn c s)) : GS k x mn c dT w0 v0 s := fun v I => by
  obtain ⟨a, b, r, e, h1, h2, h4⟩ := lsh_ok so I
  rw [e, List.map_cons, List.map_cons, h1, h2]
  exact w_lshl C d h4
theorem g_lushr (C : kx_ok k) (d : decode (kCc k) (sPc s) = .ok (.lushr, 1)) (so : SO k x mn c dT w0 v0 Rs (fLsh false x (fun _ _ _ _ => none) mn c s)) : GS k x mn c dT w0 v0 s := fun v I => by
  obtain ⟨a, b, r, e, h1, h2, h4⟩ := lsh_ok so I
  rw [e, List.map_cons, List.map_cons, h1, h2]
  exact w_lushr C d h4
theorem g_lcmp (C : kx_ok k) (d : decode (kCc k) (sPc s) = .ok (.lcmp, 1)) (so : SO k x mn c dT w0 v0 Rs (fLcm x (fun _ _ _ _ => none) mn c s)) : GS k x mn c dT w0 v0 s := fun v I => by
  obtain ⟨pc, lv, st, w, lp, ce, sl⟩ := s
  cases st with
  | nil => exact SO_no so
  | cons b t =>
    cases t with
    | nil => exact SO_no so
    | cons a r =>
      obtain ⟨p, h1, h2⟩ := oI_ok (s := (pc, lv, b :: a :: r, w, lp, ce, sl)) (len := 1) (q := lCm w a b) (r := r) so
      obtain ⟨g1, g2, g5⟩ := lCm_ok (B := xB x) h1
      have := gs_fr (s := (pc, lv, b :: a :: r, w, lp, ce, sl)) g5 h2 I (sc_tl (sc_tl I.2.2.2.2.1))
      show WS k pc _ (cv v b :: cv v a :: r.map (cv v)) _ _ _
      rw [cv_long g1, cv_long g2]
      exact w_lcmp C d this
theorem g_i2l (C : kx_ok k) (d : decode (kCc k) (sPc s) = .ok (.i2l, 1)) (so : SO k x mn c dT w0 v0 Rs (fI2l x (fun _ _ _ _ => none) mn c s)) : GS k x mn c dT w0 v0 s := fun v I => by
  obtain ⟨pc, lv, st, w, lp, ce, sl⟩ := s
  cases st with
  | nil => exact SO_no so
  | cons b r =>
    have hE : okE v (wE w) := I.2.2.1.1
    have hr : scL w r := sc_tl I.2.2.2.2.1
    show WS k pc _ (cv v b :: r.map (cv v)) _ _ _
    replace so : SO k x mn c dT w0 v0 Rs (match aNm (wE w) b with
      | .inl q => if inI q = true then oOne (sGo (pc, lv, b :: r, w, lp, ce, sl) (pc + 1) (aJ (q % 18446744073709551616).toNat :: r)) else none
      | .inr (.inl _) => oI (pc, lv, b :: r, w, lp, ce, sl) 1 (some (wNewU w)) r
      | _ => none) := so
    rw [← aNm_cv hE b]
    generalize aNm (wE w) b = b' at so
    rcases b' with z | j | n | j | q | j
    · simp only [] at so
      by_cases hz : inI z = true
      · rw [if_pos hz] at so
        have := gs_same (s := (pc, lv, b :: r, w, lp, ce, sl)) (SO_one so) I (sc_cons trivial hr)
        refine w_i2l C d ?_
        rw [← q_i2l hz]
        exact this
      · rw [if_neg hz] at so
        exact SO_no so
    · obtain ⟨p, h1, h2⟩ := oI_ok (s := (pc, lv, b :: r, w, lp, ce, sl)) so
      cases h1
      exact w_i2l C d (gs_fr (s := (pc, lv, b :: r, w, lp, ce, sl)) (Fr_newU (fun v => (vI v j).toInt64)) h2 I hr)
    all_goals exact SO_no so
theorem g_l2i (C : kx_ok k) (d : decode (kCc k) (sPc s) = .ok (.l2i, 1)) (so : SO k x mn c dT w0 v0 Rs (fL2i x (fun _ _ _ _ => none) mn c s)) : GS k x mn c dT w0 v0 s := fun v I => by
  obtain ⟨pc, lv, st, w, lp, ce, sl⟩ := s
  cases st with
  | nil => exact SO_no so
  | cons b r =>
    have hr : scL w r := sc_tl I.2.2.2.2.1
    rcases b with z | j | n | j | q | j
    · exact SO_no so
    · exact SO_no so
    · have := gs_same (s := (pc, lv, aJ n :: r, w, lp, ce, sl)) (SO_one so) I (sc_cons trivial hr)
      refine w_l2i C d ?_
      rw [← q_l2i]
      exact this
    · obtain ⟨p, h1, h2⟩ := oI_ok (s := (pc, lv, aU j :: r, w, lp, ce, sl)) (q := some (wTop w)) so
      cases h1
      exact w_l2i C d (gs_fr (s := (pc, lv, aU j :: r, w, lp, ce, sl)) (Fr_top (fun v => (vJ v j).toInt32)) h2 I hr)
    · exact SO_no so
    · exact SO_no so
theorem so_if {b : Bool} {o : AO} (h : SO k x mn c dT w0 v0 Rs (if b = true then o else none)) : b = true ∧ SO k x mn c dT w0 v0 Rs o := by
  cases b with
  | false => exact SO_no h
  | true => exact ⟨rfl, h⟩
theorem cat_of {a : AV} {m : Nat} (h : Nat.beq (aCat a) m = true) : (cv v a).category = m := (cv_cat v a).trans (Nat.eq_of_beq_eq_true h)
theorem g_dup (C : kx_ok k) (d : decode (kCc k) (sPc s) = .ok (.dup, 1)) (so : SO k x mn c dT w0 v0 Rs (fDup x (fun _ _ _ _ => none) mn c s)) : GS k x mn c dT w0 v0 s := fun v I => by
  obtain ⟨pc, lv, st, w, lp, ce, sl⟩ := s
  cases st with
  | nil => exact SO_no so
  | cons b r =>
    obtain ⟨h1, h2⟩ := so_if (b := Nat.beq (aCat b) 1) so
    have hs := I.2.2.2.2.1
    exact w_dup C d (cat_of h1) (gs_same (s := (pc, lv, b :: r, w, lp, ce, sl)) (SO_one h2) I (sc_cons (sc_hd hs) hs))
theorem g_pop (C : kx_ok k) (d : decode (kCc k) (sPc s) = .ok (.pop, 1)) (so : SO k x mn c dT w0 v0 Rs (fPop x (fun _ _ _ _ => none) mn c s)) : GS k x mn c dT w0 v0 s := fun v I => by
  obtain ⟨pc, lv, st, w, lp, ce, sl⟩ := s
  cases st with
  | nil => exact SO_no so
  | cons b r =>
    obtain ⟨h1, h2⟩ := so_if (b := Nat.beq (aCat b) 1) so
    exact w_pop C d (cat_of h1) (gs_same (s := (pc, lv, b :: r, w, lp, ce, sl)) (SO_one h2) I (sc_tl I.2.2.2.2.1))
theorem g_dup2 (C : kx_ok k) (d : decode (kCc k) (sPc s) = .ok (.dup2, 1)) (so : SO k x mn c dT w0 v0 Rs (fDup2 x (fun _ _ _ _ => none) mn c s)) : GS k x mn c dT w0 v0 s := fun v I => by
  obtain ⟨pc, lv, st, w, lp, ce, sl⟩ := s
  cases st with
  | nil => exact SO_no so
  | cons b r =>
    have hs := I.2.2.2.2.1
    by_cases h : Nat.beq (aCat b) 2 = true
    · have so : SO k x mn c dT w0 v0 Rs (oOne (sGo (pc, lv, b :: r, w, lp, ce, sl) (pc + 1) (b :: b :: r))) := by
        have e : fDup2 x (fun _ _ _ _ => none) mn c (pc, lv, b :: r, w, lp, ce, sl) = oOne (sGo (pc, lv, b :: r, w, lp, ce, sl) (pc + 1) (b :: b :: r)) := if_pos h
        rw [e] at so
        exact so
      exact w_dup2_2 C d (cat_of h) (gs_same (s := (pc, lv, b :: r, w, lp, ce, sl)) (SO_one so) I (sc_cons (sc_hd hs) hs))
    · cases r with
      | nil =>
        have e : fDup2 x (fun _ _ _ _ => none) mn c (pc, lv, [b], w, lp, ce, sl) = none := if_neg h
        rw [e] at so
        exact SO_no so
      | cons u q =>
        have e : fDup2 x (fun _ _ _ _ => none) mn c (pc, lv, b :: u :: q, w, lp, ce, sl) = if Nat.beq (aCat u) 1 = true then oOne (sGo (pc, lv, b :: u :: q, w, lp, ce, sl) (pc + 1) (b :: u :: b :: u :: q)) else none := if_neg h
        rw [e] at so
        obtain ⟨h1, h2⟩ := so_if (b := Nat.beq (aCat u) 1) so
        have hb : (cv v b).category = 1 := by
          rw [cv_cat]
          rcases b with z | j | n | j | t | j
          · rfl
          · rfl
          · exact absurd rfl h
          · exact absurd rfl h
          · rfl
          · rfl
        exact w_dup2_11 C d hb (cat_of h1) (gs_same (s := (pc, lv, b :: u :: q, w, lp, ce, sl)) (SO_one h2) I (sc_cons (sc_hd hs) (sc_cons (sc_hd (sc_tl hs)) hs)))
/-- iinc -/
theorem g_iinc (C : kx_ok k) {i : Nat} {n : Int} (d : decode (kCc k) (sPc s) = .ok (.iinc i n, 3)) (so : SO k x mn c dT w0 v0 Rs (fInc i n x (fun _ _ _ _ => none) mn c s)) : GS k x mn c dT w0 v0 s := fun v I => by
  obtain ⟨pc, lv, st, w, lp, ce, sl⟩ := s
  replace so : SO k x mn c dT w0 v0 Rs (match lGet lv i with
    | some a => if (inI n && aIsI a && Nat.blt i lv.length) = true then (match iop w 0 (aNm (wE w) a) (aI n) with | some (w, q) => some ([(pc + 3, lSet lv i q, st, w, lp, ce, sl)], []) | none => none) else none
    | none => none) := so
  cases hg : lGet lv i with
  | none => rw [hg] at so; exact SO_no so
  | some a =>
    rw [hg] at so
    obtain ⟨h1, so⟩ := so_if (b := inI n && aIsI a && Nat.blt i lv.length) so
    simp only [Bool.and_eq_true] at h1
    cases hi : iop w 0 (aNm (wE w) a) (aI n) with
    | none => rw [hi] at so; exact SO_no so
    | some p =>
      rw [hi] at so
      have g : GS k x mn c dT w0 v0 (pc + 3, lSet lv i p.2, st, p.1, lp, ce, sl) := SO_one so
      have hE : okE v (wE w) := I.2.2.1.1
      obtain ⟨-, -, -, -, f1, f2, f3⟩ := iop_ok (B := xB x) hi
      obtain ⟨v', e1, e2, e3, e4⟩ := f3 v I.2.2.1
      have hlv : scO w lv := I.2.2.2.1
      have hn : lv.length = kN k := I.2.2.2.2.2.1
      have q := g v' (Inv_go (s := (pc, lv, st, w, lp, ce, sl)) I f1 e1 e2 (lSet_sc (scO_mono f1 hlv) e3) (scL_mono f1 I.2.2.2.2.1) ((lSet_len _ _ _).trans hn) (fun _ h => h))
      replace q : WS k (pc + 3) (cL v' (lSet lv i p.2)) (st.map (cv v')) (cW v' dT (xB x) (wH p.1)) ce sl := q
      rw [f2, ← cW_agr e1 I.2.2.1.2.2.1, ← cS_agr e1 I.2.2.2.2.1] at q
      have hm : (i, Value.int (cZ v a)) ∈ cL v lv := cL_mem.mpr ⟨a, lGet_mem hg, (cv_int h1.1.2).symm⟩
      refine w_iinc C d (by rw [← hn]; exact Nat.blt_eq.mp h1.2) hm (fun z hz => ?_) q
      have := lSet_but (v := v') (l := lv) (i := i) (a := p.2) z hz
      rw [e4, ← cL_agr e1 hlv] at this
      simp only [aNm_cZ hE] at this
      exact this
/-- branches -/
theorem br_ok {op t f : Nat} {a b : AV} {r : List AV} (so : SO k x mn c dT w0 v0 Rs (oBr s op a b t f r)) (I : Inv k x mn c dT w0 v0 s v) (hr : scL (sW s) r) : aIsI a = true ∧ aIsI b = true ∧ (ccP op (cZ v a) (cZ v b) → WS k t (cL v (sLv s)) (r.map (cv v)) (cW v dT (xB x) (wH (sW s))) (sC s) (sS s)) ∧ (¬ ccP op (cZ v a) (cZ v b) → WS k f (cL v (sLv s)) (r.map (cv v)) (cW v dT (xB x) (wH (sW s))) (sC s) (sS s)) := by
  obtain ⟨h1, so⟩ := so_if (b := aIsI a && aIsI b) so
  simp only [Bool.and_eq_true] at h1
  refine ⟨h1.1, h1.2, ?_⟩
  cases ha : aBd (wE (sW s)) a with
  | none => rw [ha] at so; exact SO_no so
  | some ba =>
    cases hb : aBd (wE (sW s)) b with
    | none => rw [ha, hb] at so; exact SO_no so
    | some bb =>
      rw [ha, hb] at so
      obtain ⟨ss, rs, e, g, -⟩ := so
      cases e
      have hE : okE v (wE (sW s)) := I.2.2.1.1
      constructor
      · intro hc
        obtain ⟨F, e1, n1, o1⟩ := rT_ok hE op (by rw [ha]; rfl) (by rw [hb]; rfl) hc
        obtain ⟨q1, q2⟩ := okW_nar I.2.2.1 n1 o1
        exact gs_go (g (sGoW s t r (wEnv (sW s) F)) (List.mem_append_left _ (by rw [e1]; exact List.mem_cons_self))) I q2 rfl (agr_rf _ _) q1 (scL_mono q2 hr) rfl
      · intro hc
        obtain ⟨F, e1, n1, o1⟩ := rF_ok hE op (by rw [ha]; rfl) (by rw [hb]; rfl) hc
        obtain ⟨q1, q2⟩ := okW_nar I.2.2.1 n1 o1
        exact gs_go (g (sGoW s f r (wEnv (sW s) F)) (List.mem_append_right _ (by rw [e1]; exact List.mem_cons_self))) I q2 rfl (agr_rf _ _) q1 (scL_mono q2 hr) rfl
theorem icmp_ok {op t : Nat} (so : SO k x mn c dT w0 v0 Rs (match sSt s with | b :: a :: r => oBr s op (aNm (wE (sW s)) a) (aNm (wE (sW s)) b) t (sPc s + 3) r | _ => none)) (I : Inv k x mn c dT w0 v0 s v) : ∃ a b r, sSt s = b :: a :: r ∧ cv v b = .int (cZ v b) ∧ cv v a = .int (cZ v a) ∧ (ccP op (cZ v a) (cZ v b) → WS k t (cL v (sLv s)) (r.map (cv v)) (cW v dT (xB x) (wH (sW s))) (sC s) (sS s)) ∧ (¬ ccP op (cZ v a) (cZ v b) → WS k (sPc s + 3) (cL v (sLv s)) (r.map (cv v)) (cW v dT (xB x) (wH (sW s))) (sC s) (sS s)) := by
  obtain ⟨pc, lv, st, w, lp, ce, sl⟩ := s
  cases st with
  | nil => exact SO_no so
  | cons b q =>
    cases q with
    | nil => exact SO_no so
    | cons a r =>
      have hE : okE v (wE w) := I.2.2.1.1
      obtain ⟨h1, h2, h3, h4⟩ := br_ok (s := (pc, lv, b :: a :: r, w, lp, ce, sl)) so I (sc_tl (sc_tl I.2.2.2.2.1))
      rw [aNm_isI] at h1 h2
      rw [aNm_cZ hE, aNm_cZ hE] at h3 h4
      exact ⟨a, b, r, rfl, cv_int h2, cv_int h1, h3, h4⟩
theorem if_ok {op t : Nat} (so : SO k x mn c dT w0 v0 Rs (match sSt s with | a :: r => oBr s op (aNm (wE (sW s)) a) (aI 0) t (sPc s + 3) r | _ => none)) (I : Inv k x mn c dT w0 v0 s v) : ∃ a r, sSt s = a :: r ∧ cv v a = .int (cZ v a) ∧ (ccP op (cZ v a) 0 → WS k t (cL v (sLv s)) (r.map (cv v)) (cW v dT (xB x) (wH (sW s))) (sC s) (sS s)) ∧ (¬ ccP op (cZ v a) 0 → WS k (sPc s + 3) (cL v (sLv s)) (r.map (cv v)) (cW v dT (xB x) (wH (sW s))) (sC s) (sS s)) := by
  obtain ⟨pc, lv, st, w, lp, ce, sl⟩ := s
  cases st with
  | nil => exact SO_no so
  | cons a r =>
    have hE : okE v (wE w) := I.2.2.1.1
    obtain ⟨h1, h2, h3, h4⟩ := br_ok (s := (pc, lv, a :: r, w, lp, ce, sl)) so I (sc_tl I.2.2.2.2.1)
    rw [aNm_isI] at h1
    rw [aNm_cZ hE] at h3 h4
    exact ⟨a, r, rfl, cv_int h1, h3, h4⟩
theorem g_icmp_eq (C : kx_ok k) {o : Int} (d : decode (kCc k) (sPc s) = .ok (.if_icmp .eq o, 3)) (ht : (sPc s : Int) + o = (tgt s o : Int)) (so : SO k x mn c dT w0 v0 Rs (fIc 0 o x (fun _ _ _ _ => none) mn c s)) : GS k x mn c dT w0 v0 s := fun v I => by
  obtain ⟨a, b, r, e, h1, h2, h3, h4⟩ := icmp_ok so I
  rw [e, List.map_cons, List.map_cons, h1, h2]
  exact w_icmp_eq C d ht (fun q => h3 (congrArg Int32.toInt q)) (fun q => h4 (fun z => q (Int32.toInt_inj.1 z)))
theorem g_if_eq (C : kx_ok k) {o : Int} (d : decode (kCc k) (sPc s) = .ok (.ifCond .eq o, 3)) (ht : (sPc s : Int) + o = (tgt s o : Int)) (so : SO k x mn c dT w0 v0 Rs (fIf 0 o x (fun _ _ _ _ => none) mn c s)) : GS k x mn c dT w0 v0 s := fun v I => by
  obtain ⟨a, r, e, h1, h3, h4⟩ := if_ok so I
  rw [e, List.map_cons, h1]
  exact w_if_eq C d ht (fun q => h3 (congrArg Int32.toInt q)) (fun q => h4 (fun z => q (Int32.toInt_inj.1 z)))
theorem g_icmp_ne (C : kx_ok k) {o : Int} (d : decode (kCc k) (sPc s) = .ok (.if_icmp .ne o, 3)) (ht : (sPc s : Int) + o = (tgt s o : Int)) (so : SO k x mn c dT w0 v0 Rs (fIc 1 o x (fun _ _ _ _ => none) mn c s)) : GS k x mn c dT w0 v0 s := fun v I => by
  obtain ⟨a, b, r, e, h1, h2, h3, h4⟩ := icmp_ok so I
  rw [e, List.map_cons, List.map_cons, h1, h2]
  exact w_icmp_ne C d ht (fun q => h3 (fun z => q (Int32.toInt_inj.1 z))) (fun q => h4 (fun z => z (congrArg Int32.toInt q)))
theorem g_if_ne (C : kx_ok k) {o : Int} (d : decode (kCc k) (sPc s) = .ok (.ifCond .ne o, 3)) (ht : (sPc s : Int) + o = (tgt s o : Int)) (so : SO k x mn c dT w0 v0 Rs (fIf 1 o x (fun _ _ _ _ => none) mn c s)) : GS k x mn c dT w0 v0 s := fun v I => by
  obtain ⟨a, r, e, h1, h3, h4⟩ := if_ok so I
  rw [e, List.map_cons, h1]
  exact w_if_ne C d ht (fun q => h3 (fun z => q (Int32.toInt_inj.1 z))) (fun q => h4 (fun z => z (congrArg Int32.toInt q)))
theorem g_icmp_lt (C : kx_ok k) {o : Int} (d : decode (kCc k) (sPc s) = .ok (.if_icmp .lt o, 3)) (ht : (sPc s : Int) + o = (tgt s o : Int)) (so : SO k x mn c dT w0 v0 Rs (fIc 2 o x (fun _ _ _ _ => none) mn c s)) : GS k x mn c dT w0 v0 s := fun v I => by
  obtain ⟨a, b, r, e, h1, h2, h3, h4⟩ := icmp_ok so I
  rw [e, List.map_cons, List.map_cons, h1, h2]
  exact w_icmp_lt C d ht (fun q => h3 (Int32.lt_iff_toInt_lt.mp q)) (fun q => h4 (fun z => q (Int32.lt_iff_toInt_lt.mpr z)))
theorem g_if_lt (C : kx_ok k) {o : Int} (d : decode (kCc k) (sPc s) = .ok (.ifCond .lt o, 3)) (ht : (sPc s : Int) + o = (tgt s o : Int)) (so : SO k x mn c dT w0 v0 Rs (fIf 2 o x (fun _ _ _ _ => none) mn c s)) : GS k x mn c dT w0 v0 s := fun v I => by
  obtain ⟨a, r, e, h1, h3, h4⟩ := if_ok so I
  rw [e, List.map_cons, h1]
  exact w_if_lt C d ht (fun q => h3 (Int32.lt_iff_toInt_lt.mp q)) (fun q => h4 (fun z => q (Int32.lt_iff_toInt_lt.mpr z)))
theorem g_icmp_ge (C : kx_ok k) {o : Int} (d : decode (kCc k) (sPc s) = .ok (.if_icmp .ge o, 3)) (ht : (sPc s : Int) + o = (tgt s o : Int)) (so : SO k x mn c dT w0 v0 Rs (fIc 3 o x (fun _ _ _ _ => none) mn c s)) : GS k x mn c dT w0 v0 s := fun v I => by
  obtain ⟨a, b, r, e, h1, h2, h3, h4⟩ := icmp_ok so I
  rw [e, List.map_cons, List.map_cons, h1, h2]
  exact w_icmp_ge C d ht (fun q => h3 (Int32.le_iff_toInt_le.mp q)) (fun q => h4 (fun z => q (Int32.le_iff_toInt_le.mpr z)))
theorem g_if_ge (C : kx_ok k) {o : Int} (d : decode (kCc k) (sPc s) = .ok (.ifCond .ge o, 3)) (ht : (sPc s : Int) + o = (tgt s o : Int)) (so : SO k x mn c dT w0 v0 Rs (fIf 3 o x (fun _ _ _ _ => none) mn c s)) : GS k x mn c dT w0 v0 s := fun v I => by
  obtain ⟨a, r, e, h1, h3, h4⟩ := if_ok so I
  rw [e, List.map_cons, h1]
  exact w_if_ge C d ht (fun q => h3 (Int32.le_iff_toInt_le.mp q)) (fun q => h4 (fun z => q (Int32.le_iff_toInt_le.mpr z)))
theorem g_icmp_gt (C : kx_ok k) {o : Int} (d : decode (kCc k) (sPc s) = .ok (.if_icmp .gt o, 3)) (ht : (sPc s : Int) + o = (tgt s o : Int)) (so : SO k x mn c dT w0 v0 Rs (fIc 4 o x (fun _ _ _ _ => none) mn c s)) : GS k x mn c dT w0 v0 s := fun v I => by
  obtain ⟨a, b, r, e, h1, h2, h3, h4⟩ := icmp_ok so I
  rw [e, List.map_cons, List.map_cons, h1, h2]
  exact w_icmp_gt C d ht (fun q => h3 (Int32.lt_iff_toInt_lt.mp q)) (fun q => h4 (fun z => q (Int32.lt_iff_toInt_lt.mpr z)))
theorem g_if_gt (C : kx_ok k) {o : Int} (d : decode (kCc k) (sPc s) = .ok (.ifCond .gt o, 3)) (ht : (sPc s : Int) + o = (tgt s o : Int)) (so : SO k x mn c dT w0 v0 Rs (fIf 4 o x (fun _ _ _ _ => none) mn c s)) : GS k x mn c dT w0 v0 s := fun v I => by
  obtain ⟨a, r, e, h1, h3, h4⟩ := if_ok so I
  rw [e, List.map_cons, h1]
  exact w_if_gt C d ht (fun q => h3 (Int32.lt_iff_toInt_lt.mp q)) (fun q => h4 (fun z => q (Int32.lt_iff_toInt_lt.mpr z)))
theorem g_icmp_le (C : kx_ok k) {o : Int} (d : decode (kCc k) (sPc s) = .ok (.if_icmp .le o, 3)) (ht : (sPc s : Int) + o = (tgt s o : Int)) (so : SO k x mn c dT w0 v0 Rs (fIc 5 o x (fun _ _ _ _ => none) mn c s)) : GS k x mn c dT w0 v0 s := fun v I => by
  obtain ⟨a, b, r, e, h1, h2, h3, h4⟩ := icmp_ok so I
  rw [e, List.map_cons, List.map_cons, h1, h2]
  exact w_icmp_le C d ht (fun q => h3 (Int32.le_iff_toInt_le.mp q)) (fun q => h4 (fun z => q (Int32.le_iff_toInt_le.mpr z)))
theorem g_if_le (C : kx_ok k) {o : Int} (d : decode (kCc k) (sPc s) = .ok (.ifCond .le o, 3)) (ht : (sPc s : Int) + o = (tgt s o : Int)) (so : SO k x mn c dT w0 v0 Rs (fIf 5 o x (fun _ _ _ _ => none) mn c s)) : GS k x mn c dT w0 v0 s := fun v I => by
  obtain ⟨a, r, e, h1, h3, h4⟩ := if_ok so I
  rw [e, List.map_cons, h1]
  exact w_if_le C d ht (fun q => h3 (Int32.le_iff_toInt_le.mp q)) (fun q => h4 (fun z => q (Int32.le_iff_toInt_le.mpr z)))
end ST2
