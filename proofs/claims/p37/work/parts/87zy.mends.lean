theorem oq_d5312b3b {a0 a1 a2 a3 : Int} (h0 : a0 = a1) (h1 : a1 = a2) (h2 : a2 = a3) (h3 : a3 ≤ 8) : (a0 - 0) ≤ ((8 : Nat) : Int) := by omega
/-! Mends: class, the whole -/
noncomputable def hAt (P : Nat → Prop) (i : Nat) : Nat := Classical.epsilon (fun s => P s ∧ cHt P s = i)
theorem hat_eq {P : Nat → Prop} {s i : Nat} (h : P s) (e : cHt P s = i) : hAt P i = s := by
  have z : P (hAt P i) ∧ cHt P (hAt P i) = i := Classical.epsilon_spec (p := fun s => P s ∧ cHt P s = i) ⟨s, h, e⟩
  exact cht_inj z.1 h (z.2.trans e.symm)
noncomputable def hmoS (U : AirD) (S : Int → Prop) (q : Nat) (i : Nat) : Int := uM U q (hAt (hitP U S q) i)
noncomputable def hrdS (U : AirD) (S : Int → Prop) (q : Nat) (i : Nat) : Int := rdX U S q (hAt (hitP U S q) i)
/-- the best mends -/
noncomputable def slB (U : AirD) (S : Int → Prop) (q : Nat) (ft : Int → Prop) (a b : Int) : MdO := trB (hmoS U S q) (hrdS U S q) ft (cHt (hitP U S q) (uN U)) (cHt (hitP U S q) (uN U)) (fun _ => 0) 0 a b none
theorem anj_h {U : AirD} {S : Int → Prop} {q : Nat} {s : PS} (a : ANJ U S q s) : ∀ i, i < cHt (hitP U S q) (uN U) → mo9 s i = hmoS U S q i ∧ rd9 s i = hrdS U S q i := fun i hi => by
  obtain ⟨s1, s2, s3, s4, s5⟩ := htq_at a.2.1 hi
  replace s5 : iC s 72 i = (s1 : Int) := s5
  have ha : hAt (hitP U S q) i = s1 := hat_eq s3 s4
  have w := a.1.2.1
  have z := a.2.2.2.2.2.1 s1 s2
  have r := a.2.2.2.2.2.2 s1 s2 s3
  rw [s4] at r
  refine ⟨?_, ?_⟩
  · unfold hmoS
    rw [ha, ← z]
    show iC s 11 (12 * (iI s 39).toNat + (iC s 72 i).toNat) = _
    exact congrArg (iC s 11) (by omega)
  · unfold hrdS
    rw [ha, ← r]
theorem slv_of {U : AirD} {S : Int → Prop} {q : Nat} {ft : Int → Prop} {a b : Int} {s t : PS} (h : ANJ U S q s) (r : TRQ ft none 0 0 a b s t) : BSS (cHt (hitP U S q) (uN U)) (slB U S q ft a b) t := by
  have en : nn9 s = cHt (hitP U S q) (uN U) := by have := h.1.1; show (iI s 41).toNat = _; omega
  have z := r.1
  rw [en] at z
  have e : trB (mo9 s) (rd9 s) ft (cHt (hitP U S q) (uN U)) (cHt (hitP U S q) (uN U) - (0 : Int).toNat) (md9 s) 0 a b none = slB U S q ft a b := trb_c (anj_h h) _ (Nat.le_refl _) (fun j hj => absurd hj (by omega))
  rw [e] at z
  exact z
theorem anj_of {U : AirD} {S : Int → Prop} {q : Nat} {s : PS} (d : CDJ U s) (c1 : iI s 41 = (cHt (hitP U S q) (uN U) : Int)) (c2 : iI s 39 = (q : Int)) (q0 : q < 24) (h : HTQ (hitP U S q) (uN U) (fun j => iC s 72 j)) (cn : iI s 43 = (uN U : Int)) (r : LWR U S q (hitP U S q) (uN U : Int) s) : ANJ U S q s := ⟨⟨c1, c2, q0⟩, h, ⟨cn, d.1.2⟩, fun x hx => ⟨(r.2.1 x (by omega)).1, fun k hk => (r.2.1 x (by omega)).2 k (by have e := (r.2.1 x (by omega)).1; replace hk : (k : Int) < iC s 58 x := hk; omega)⟩, d.2.2.2.2.2, fun x hx => d.2.2.1 q x q0 hx, fun x hx p => r.2.2.2 x (by omega) p⟩
theorem rnb_of {U : AirD} {S : Int → Prop} {q : Nat} {s : PS} (a : AIR s) (d : CDJ U s) (j : ANJ U S q s) (r : LWR U S q (hitP U S q) (uN U : Int) s) (hm : ∀ x, x < uN U → 0 ≤ uM U q x ∧ uM U q x ≤ 50) : RNB s := fun i hi => by
  obtain ⟨s1, s2, s3, s4, s5⟩ := htq_at j.2.1 (j := i) (by have := j.1.1; omega)
  have e := j.2.2.2.2.2.2 s1 s2 s3
  rw [s4] at e
  rw [e]
  have w1 := (a.2 s1 (by have := d.1.1; omega)).1.1
  have w2 : iC s 2 s1 = (uW U).2 s1 := (d.2.1 s1 s2).1
  have z1 := (r.1 s1 (by omega)).1.1
  have z2 := (r.2.1 s1 (by omega)).1
  refine rdx_r ?_ (by omega) (hm s1 s2)
  by_cases c : zF U S s1 = 0
  · rw [c]; decide
  · rw [(wyf_r (P := hitP U S q) ⟨s3, c⟩).1] at z2
    omega
/-- the answer -/
def MNE (U : AirD) (S : Int → Prop) (q : Nat) (ft : Int → Prop) (a b p e : Int) : Prop := (p = -2 ∧ rng e ∧ Int32.ofInt e = hbW (hitP U S q) (uN U)) ∨ (p ≠ -2 ∧ (8 < cHt (hitP U S q) (uN U) ∨ slB U S q ft a b = none) ∧ e = -1) ∨ (p ≠ -2 ∧ cHt (hitP U S q) (uN U) ≤ 8 ∧ ∃ c, slB U S q ft a b = some c ∧ ((p = -1 ∧ e = c.1) ∨ (0 ≤ p ∧ ((∃ i, i < cHt (hitP U S q) (uN U) ∧ (hAt (hitP U S q) i : Int) = p ∧ e = c.2 i) ∨ ((∀ i, i < cHt (hitP U S q) (uN U) → (hAt (hitP U S q) i : Int) ≠ p) ∧ e = 0)))))
theorem bss_0 {n : Nat} {B : MdO} {s : PS} (h : BSS n B s) (e : iI s 42 = 2147483647) : B = none := by
  cases B with
  | none => rfl
  | some b =>
    have h1 := h.1
    have h2 := h.2.1
    omega
theorem bss_1 {n : Nat} {B : MdO} {s : PS} (h : BSS n B s) (e : iI s 42 ≠ 2147483647) : ∃ b, B = some b ∧ iI s 42 = b.1 ∧ ∀ j : Nat, j < n → iC s 75 j = b.2 j := by
  cases B with
  | none => exact absurd (show iI s 42 = 2147483647 from h) e
  | some b => exact ⟨b, rfl, h.1, h.2.2⟩
theorem mne_m {U : AirD} {S : Int → Prop} {q : Nat} {ft : Int → Prop} {a b p e : Int} {t : PS} (h : BSS (cHt (hitP U S q) (uN U)) (slB U S q ft a b) t) (hb : iI t 42 ≠ 2147483647) (hn : cHt (hitP U S q) (uN U) ≤ 8) (hp : p ≠ -2) (he : p = -1 ∧ e = iI t 42) : MNE U S q ft a b p e := by
  obtain ⟨c, c1, c2, c3⟩ := bss_1 h hb
  exact Or.inr (Or.inr ⟨hp, hn, c, c1, Or.inl ⟨he.1, he.2.trans c2⟩⟩)
theorem mne_s {U : AirD} {S : Int → Prop} {q : Nat} {ft : Int → Prop} {a b p e : Int} {t : PS} (h : BSS (cHt (hitP U S q) (uN U)) (slB U S q ft a b) t) (hb : iI t 42 ≠ 2147483647) (hn : cHt (hitP U S q) (uN U) ≤ 8) (hp : 0 ≤ p) (hc : iI t 41 = (cHt (hitP U S q) (uN U) : Int)) (hh : HTQ (hitP U S q) (uN U) (fun j => iC t 72 j)) (he : MDF p e t) : MNE U S q ft a b p e := by
  obtain ⟨c, c1, c2, c3⟩ := bss_1 h hb
  have ha : ∀ i, i < cHt (hitP U S q) (uN U) → iC t 72 i = (hAt (hitP U S q) i : Int) := fun i hi => by
    obtain ⟨s1, s2, s3, s4, s5⟩ := htq_at hh hi
    rw [hat_eq s3 s4]; exact s5
  refine Or.inr (Or.inr ⟨by omega, hn, c, c1, Or.inr ⟨hp, ?_⟩⟩)
  rcases he with ⟨i, i1, i2, i3, i4⟩ | ⟨i1, i2⟩
  · have hi : i < cHt (hitP U S q) (uN U) := by omega
    exact Or.inl ⟨i, hi, by rw [← ha i hi]; exact i3, i4.trans (c3 i hi)⟩
  · exact Or.inr ⟨fun i hi => by rw [← ha i hi]; exact i1 i (by omega) (by omega), i2⟩
section M87ky
variable {l : Launch} {s0 : State} {D : va_G} {tys : List (ClassId × FieldType)} {a0 : Array Value} {A : Nat → Nat} {dT : Nat → ClassId} {s : PS}
set_option maxRecDepth 4000 in
theorem c8_solve9 (G : GX l s0 D tys a0 dT) (GR : RS0 s0) {U : AirD} (I : Bd s) (jAIR : AIR s) (jCDJ : CDJ U s) (jPMJ : PMJ s) {x y : Int} (p0 : 0 ≤ x ∧ x ≤ 8) (p1 : 0 ≤ y ∧ y ≤ 8) (p2 : FHQ (hitP U (stS s) (iI s 39).toNat) (iI s 9) s) : CT l s0 D A dT 91 (rmN 91) [.ref (A 67), .int (Int32.ofInt x), .int (Int32.ofInt y)] s (fun o t => Bd t ∧ Fm [43, 44, 46, 47, 49, 50, 52, 53, 55, 56, 58, 59, 61, 62, 64, 65, 67, 68, 42] [57, 58, 67, 62, 77, 78, 79, 73, 87, 80, 81, 82, 83, 84, 85, 86, 96, 89, 90, 91, 92, 93, 94, 95, 105, 98, 99, 100, 101, 102, 103, 104, 114, 107, 108, 109, 110, 111, 112, 113, 123, 116, 117, 118, 119, 120, 121, 122, 132, 125, 126, 127, 128, 129, 130, 131, 141, 134, 135, 136, 137, 138, 139, 140, 150, 143, 144, 145, 146, 147, 148, 149, 20, 76, 74, 75, 1059, 1060, 1061, 1063] s t ∧ ∃ e, o = .inl (some (.int (Int32.ofInt e))) ∧ rng e ∧ ((8 < iI s 41 ∧ e = 0) ∨ (iI s 41 ≤ 8 ∧ BSS (cHt (hitP U (stS s) (iI s 39).toNat) (uN U)) (slB U (stS s) (iI s 39).toNat (fitK9 U (stS s) (iI s 39).toNat (pfC s) (fun j => iC s 24 j)) x y) t ∧ ((e = 1 ∧ iI t 42 ≠ 2147483647) ∨ (e = 0 ∧ iI t 42 = 2147483647))))) := by
  refine ct_ofX G (by decide) (Nat.le_of_ble_eq_true rfl) (fun k X E ET hRt hXt q => ?_)
  show WS k 0 [(0, .ref (A 67)), (1, .int (Int32.ofInt x)), (2, .int (Int32.ofInt y))] [] _ 0 0
  have F : Fm [43, 44, 46, 47, 49, 50, 52, 53, 55, 56, 58, 59, 61, 62, 64, 65, 67, 68, 42] [57, 58, 67, 62, 77, 78, 79, 73, 87, 80, 81, 82, 83, 84, 85, 86, 96, 89, 90, 91, 92, 93, 94, 95, 105, 98, 99, 100, 101, 102, 103, 104, 114, 107, 108, 109, 110, 111, 112, 113, 123, 116, 117, 118, 119, 120, 121, 122, 132, 125, 126, 127, 128, 129, 130, 131, 141, 134, 135, 136, 137, 138, 139, 140, 150, 143, 144, 145, 146, 147, 148, 149, 20, 76, 74, 75, 1059, 1060, 1061, 1063] s s := fm_rf _ _ s
  have b1 := bi_41 I
  have b2 := bi_42 I
  have b3 := bi_39 I
  refine z_aload_n X (x := A 67) rfl (List.Mem.head _) (z_getI X 67 rfl (c518_ok rfl) rfl rfl ?_)
  have b4 := bi_41 I
  refine z_bipush X rfl (z_icmp_le X (t := 11) rfl rfl (rng_to _) (by decide) (fun g5 => ?_) (fun g5 => ?_))
  ·
    refine z_aload_n X (x := A 67) rfl (List.Mem.head _) (zcV_v2 X E 67 (As := []) (st := []) rfl rfl rfl rfl (c8_lay9 G GR I jAIR jCDJ (p2) (by first | exact g5 | omega)) rfl (Nat.le_of_ble_eq_true rfl) (fun s6 Is6 Fs6 JAIRM_s6 JCPLM_s6 hps6 => ?_))
    have Gs6 := fm_ts F Fs6 (by decide) (by decide +kernel)
    have JAIR_s6 : AIR s6 := AIR_fm Fs6 (by decide) jAIR
    have JCDJ_s6 : CDJ U s6 := CDJ_fm Fs6 (by decide) jCDJ
    have JPMJ_s6 : PMJ s6 := PMJ_fm Fs6 (by decide) jPMJ
    have ws6_41 : iI s6 41 = iI s 41 := fm_iq Fs6 rfl
    have ws6_42 : iI s6 42 = iI s 42 := fm_iq Fs6 rfl
    have ws6_39 : iI s6 39 = iI s 39 := fm_iq Fs6 rfl
    have hcu := jCDJ.1.1
    have hn9 : (iI s 9).toNat = uN U := by omega
    have hFH := p2
    unfold FHQ at hFH
    rw [hn9] at hFH
    have hqb : (0 : Int) ≤ iI s 39 ∧ iI s 39 ≤ 23 := I.1 39
    have hLW : LWR U (stS s) (iI s 39).toNat (hitP U (stS s) (iI s 39).toNat) (uN U : Int) s6 := by have z := hps6.1; rw [hcu] at z; exact z
    have hAN : ANJ U (stS s) (iI s 39).toNat s6 := anj_of JCDJ_s6 ((fm_i Fs6 (by decide)).trans hFH.1) ((fm_i Fs6 (by decide)).trans (by omega)) (by omega) (by have z := hFH.2.2; rw [show (fun j => iC s6 72 j) = (fun j => iC s 72 j) from funext (fun j => fm_c Fs6 (by decide))]; exact z) (hps6.2.2.trans hcu) hLW
    have hMB : ∀ x, x < uN U → 0 ≤ uM U (iI s 39).toNat x ∧ uM U (iI s 39).toNat x ≤ 50 := fun x hx => by rw [← jCDJ.2.2.1 (iI s 39).toNat x (by omega) hx]; exact (I.2 11 (12 * (iI s 39).toNat + x) (show 12 * (iI s 39).toNat + x < 288 by have := jCDJ.1.2; omega) : (0 : Int) ≤ iC s 11 (12 * (iI s 39).toNat + x) ∧ iC s 11 (12 * (iI s 39).toNat + x) ≤ 50)
    have hTM : TMK U (stS s) (iI s 39).toNat (fun p => gD s 22 p) (fun p => gD s 23 p) (fitK9 U (stS s) (iI s 39).toNat (pfC s) (fun j => iC s 24 j)) s6 := ⟨JAIRM_s6, JCPLM_s6, fun p _ => ⟨fm_dd Fs6 (by decide), fm_dd Fs6 (by decide)⟩, JPMJ_s6, hAN, rnb_of JAIR_s6 JCDJ_s6 hAN hLW hMB, by rw [show pfC s6 = pfC s from funext (fun j => fm_c Fs6 (by decide)), show (fun j => iC s6 24 j) = (fun j => iC s 24 j) from funext (fun j => fm_c Fs6 (by decide))]⟩
    have hEJ : EAJ (fun p => gD s 22 p) (fun p => gD s 23 p) s6 := eaj_of hps6.2.1 (fun i => fm_dd Fs6 (by decide)) (fun i => fm_dd Fs6 (by decide))
    have hMJ : MSJ U (stS s) (iI s 39).toNat s6 := fun x hx _ => hLW.2.2.1 x (by omega)
    refine z_aload_n X (x := A 67) rfl (List.Mem.head _) (s_getR X 67 rfl (c518_ok rfl) rfl rfl (z_const X rfl (zcS_v0 X E (As := [.ref (A 89), .int (Int32.ofInt 0)]) (st := []) rfl rfl (j_fill9k G Is6 (by first | exact ⟨by decide, by decide⟩ | omega)) rfl (Nat.le_of_ble_eq_true rfl) (fun s8 Is8 Fs8 hps8 => ?_))))
    have Gs8 := fm_tq Gs6 Fs8 rfl rfl
    have JTMK_s8 : TMK U (stS s) (iI s 39).toNat (fun p => gD s 22 p) (fun p => gD s 23 p) (fitK9 U (stS s) (iI s 39).toNat (pfC s) (fun j => iC s 24 j)) s8 := TMK_fm Fs8 (by decide) hTM
    have JEAJ_s8 : EAJ (fun p => gD s 22 p) (fun p => gD s 23 p) s8 := EAJ_fm Fs8 (by decide) hEJ
    have JMSJ_s8 : MSJ U (stS s) (iI s 39).toNat s8 := MSJ_fm Fs8 (by decide) hMJ
    have ws8_41 : iI s8 41 = iI s6 41 := fm_iq Fs8 rfl
    have ws8_42 : iI s8 42 = iI s6 42 := fm_iq Fs8 rfl
    have ws8_39 : iI s8 39 = iI s6 39 := fm_iq Fs8 rfl
    have hKJ : KNJ (fitK9 U (stS s) (iI s 39).toNat (pfC s) (fun j => iC s 24 j)) s8 := knj_0 (fun k hk => hps8 k hk)
    refine z_aload_n X (x := A 67) rfl (List.Mem.head _) (z_ldc X rfl (s_putI X 67 rfl (c518_ok rfl) rfl rfl (by decide) rfl rfl rfl (wd_gen (fun s10 hs10 => ?_))))
    have Is10 : Bd s10 := eqB hs10 (bd_I Is8 (show ((-2147483648) : Int) ≤ 2147483647 ∧ 2147483647 ≤ 2147483647 by first | exact ⟨by decide, by decide⟩ | omega) (by decide))
    have Fs10 := eqF hs10 (fm_I Gs8 (inl_ok (a := 42) rfl))
    have vs10 : iI s10 42 = 2147483647 := eqI hs10 (iI_u (by decide))
    have ws10_41 : iI s10 41 = iI s8 41 := eqI hs10 rfl
    have ws10_39 : iI s10 39 = iI s8 39 := eqI hs10 rfl
    have fs10 : Fm [42] [] s8 s10 := by rw [hs10]; exact fm_I (fm_rf _ _ _) (show 42 ∈ _ by decide)
    have JTMK_s10 : TMK U (stS s) (iI s 39).toNat (fun p => gD s 22 p) (fun p => gD s 23 p) (fitK9 U (stS s) (iI s 39).toNat (pfC s) (fun j => iC s 24 j)) s10 := TMK_fm fs10 (by decide) JTMK_s8
    have JEAJ_s10 : EAJ (fun p => gD s 22 p) (fun p => gD s 23 p) s10 := EAJ_fm fs10 (by decide) JEAJ_s8
    have JMSJ_s10 : MSJ U (stS s) (iI s 39).toNat s10 := MSJ_fm fs10 (by decide) JMSJ_s8
    have JKNJ_s10 : KNJ (fitK9 U (stS s) (iI s 39).toNat (pfC s) (fun j => iC s 24 j)) s10 := KNJ_fm fs10 (by decide) hKJ
    refine z_aload_n X (x := A 67) rfl (List.Mem.head _) (z_const X rfl (z_const X rfl (z_load_n X (x := x) rfl (List.Mem.tail _ (List.Mem.head _)) (z_load_n X (x := y) rfl (List.Mem.tail _ (List.Mem.tail _ (List.Mem.head _))) (z_const X rfl ?_)))))
    have hTP : TRP none 0 0 s10 := ⟨show iI s10 42 = 2147483647 by first | (clear hps8; omega) | omega, rfl⟩
    refine z_callV X 67 (rm := (rkR (30 + (8)))) (As := [.int (Int32.ofInt 0), .int (Int32.ofInt 0), .int (Int32.ofInt x), .int (Int32.ofInt y), .int (Int32.ofInt 0)]) (st := []) rfl rfl (by decide) rfl (by rw [E.1, E.2.1, E.2.2.1]; exact c8_try9 G 8 Is10 JTMK_s10 JEAJ_s10 JMSJ_s10 JKNJ_s10 (by first | exact ⟨by decide, oq_b13ada65 ws10_41 ws8_41 ws6_41 b4.1⟩ | omega) (by first | exact oq_d5312b3b ws10_41 ws8_41 ws6_41 g5 | omega) (by first | exact oq_e14d47df ws10_41 ws8_41 ws6_41 g5 | omega) (by first | exact ⟨by decide, by decide⟩ | omega) (by first | exact ⟨p0.1, p0.2⟩ | omega) (by first | exact ⟨p1.1, p1.2⟩ | omega) (by first | exact ⟨by decide, by decide⟩ | omega) (hTP)) ⟨by rw [E.2.2.2]; exact (show (12 + (30 + (8))) + 1 ≤ 53 from oq_9a8da6b0), by rw [E.2.2.2]; exact (show 8 + (7 + 11) + (500 + 45 * (30 + (8))) ≤ 2326 from oq_deba6685), by rw [E.2.2.2]; exact Nat.le_refl 0, by rw [E.2.2.2]; exact Nat.le_refl 0⟩ (Nat.le_of_ble_eq_true rfl) (fun vv s11 hq => ?_) (fun ee s11 hq => ?_)
    rotate_left
    · obtain ⟨Is11, Fs11, JEAJ_s11, JMSJ_s11, JKNJ_s11, hv, hps11⟩ := hq; cases hv
    obtain ⟨Is11, Fs11, JEAJ_s11, JMSJ_s11, JKNJ_s11, hv, hps11⟩ := hq
    cases hv
    have Gs11 := fm_tq Fs10 Fs11 rfl rfl
    have ws11_41 : iI s11 41 = iI s10 41 := fm_iq Fs11 rfl
    have b13 := bi_42 Is11
    have ws11_39 : iI s11 39 = iI s10 39 := fm_iq Fs11 rfl
    show WS k 38 [(0, .ref (A 67)), (1, .int (Int32.ofInt x)), (2, .int (Int32.ofInt y))] [] (Wd A dT s11) 0 0
    have hBS : BSS (cHt (hitP U (stS s) (iI s 39).toNat) (uN U)) (slB U (stS s) (iI s 39).toNat (fitK9 U (stS s) (iI s 39).toNat (pfC s) (fun j => iC s 24 j)) x y) s11 := slv_of JTMK_s10.2.2.2.2.1 hps11
    refine z_aload_n X (x := A 67) rfl (List.Mem.head _) (z_getI X 67 rfl (c518_ok rfl) rfl rfl ?_)
    have b14 := bi_42 Is11
    refine z_ldc X rfl (z_icmp_eq X (t := 51) rfl rfl (rng_to _) (by decide) (fun g15 => ?_) (fun g15 => ?_))
    ·
      refine z_const X rfl ?_
      exact w_iret X.1 q hRt (nar_ret (by first | exact Or.inl (by decide) | omega)) (ax_d X (show cdA 91 52 = some (.ireturn, 1, 0, 0, 0) from rfl)) (Nat.zero_le _) (Nat.zero_le _) ⟨_, rfl, Is11, Gs11, 0, rfl, (by decide), (Or.inr ⟨by first | exact g5 | omega, hBS, Or.inr ⟨rfl, by first | exact g15 | omega⟩⟩)⟩
    ·
      refine z_const X rfl (z_goto X (t := 52) rfl rfl ?_)
      exact w_iret X.1 q hRt (nar_ret (by first | exact Or.inr (by decide) | omega)) (ax_d X (show cdA 91 52 = some (.ireturn, 1, 0, 0, 0) from rfl)) (Nat.zero_le _) (Nat.zero_le _) ⟨_, rfl, Is11, Gs11, 1, rfl, (by decide), (Or.inr ⟨by first | exact g5 | omega, hBS, Or.inl ⟨rfl, by first | exact g15 | omega⟩⟩)⟩
  ·
    refine z_const X rfl ?_
    exact w_iret X.1 q hRt (nar_ret (by first | exact Or.inl (by decide) | omega)) (ax_d X (show cdA 91 10 = some (.ireturn, 1, 0, 0, 0) from rfl)) (Nat.zero_le _) (Nat.zero_le _) ⟨_, rfl, I, F, 0, rfl, (by decide), (Or.inl ⟨by first | exact g5 | omega, rfl⟩)⟩
set_option maxRecDepth 4000 in
theorem cs_mends9 (G : GX l s0 D tys a0 dT) (GR : RS0 s0) {U : AirD} (I : Bd s) (jAIR : AIR s) (jCDJ : CDJ U s) (jPMJ : PMJ s) {u v w p : Int} (p0 : rng u) (p1 : rng v) (p2 : rng w) (p3 : rng p) : CT l s0 D A dT 170 (rmN 170) [.ref (A 0), .int (Int32.ofInt u), .int (Int32.ofInt v), .int (Int32.ofInt w), .int (Int32.ofInt p)] s (fun o t => Bd t ∧ Fm [43, 44, 46, 47, 49, 50, 52, 53, 55, 56, 58, 59, 61, 62, 64, 65, 67, 68, 42, 39, 40, 41] [57, 58, 67, 62, 77, 78, 79, 73, 87, 80, 81, 82, 83, 84, 85, 86, 96, 89, 90, 91, 92, 93, 94, 95, 105, 98, 99, 100, 101, 102, 103, 104, 114, 107, 108, 109, 110, 111, 112, 113, 123, 116, 117, 118, 119, 120, 121, 122, 132, 125, 126, 127, 128, 129, 130, 131, 141, 134, 135, 136, 137, 138, 139, 140, 150, 143, 144, 145, 146, 147, 148, 149, 20, 76, 74, 75, 72, 1059, 1060, 1061, 1063] s t ∧ ((∃ e, o = .inl (some (.int (Int32.ofInt e))) ∧ rng e ∧ ((0 ≤ u ∧ u ≤ 23) ∧ (0 ≤ v ∧ v ≤ 8) ∧ (0 ≤ w ∧ w ≤ 8) ∧ (-2 ≤ p ∧ p ≤ 11) ∧ MNE U (stS s) (u : Int).toNat (fitK9 U (stS s) (u : Int).toNat (pfC s) (fun j => iC s 24 j)) v w p e)) ∨ ∃ x : Nat, o = .inr (exN x) ∧ (x = 0 ∧ (u < 0 ∨ 23 < u ∨ v < 0 ∨ 8 < v ∨ w < 0 ∨ 8 < w ∨ p < -2 ∨ 11 < p)))) := by
  refine ct_ofX G (by decide) (Nat.le_of_ble_eq_true rfl) (fun k X E ET hRt hXt q => ?_)
  show WS k 0 [(0, .ref (A 0)), (1, .int (Int32.ofInt u)), (2, .int (Int32.ofInt v)), (3, .int (Int32.ofInt w)), (4, .int (Int32.ofInt p))] [] _ 0 0
  have F : Fm [43, 44, 46, 47, 49, 50, 52, 53, 55, 56, 58, 59, 61, 62, 64, 65, 67, 68, 42, 39, 40, 41] [57, 58, 67, 62, 77, 78, 79, 73, 87, 80, 81, 82, 83, 84, 85, 86, 96, 89, 90, 91, 92, 93, 94, 95, 105, 98, 99, 100, 101, 102, 103, 104, 114, 107, 108, 109, 110, 111, 112, 113, 123, 116, 117, 118, 119, 120, 121, 122, 132, 125, 126, 127, 128, 129, 130, 131, 141, 134, 135, 136, 137, 138, 139, 140, 150, 143, 144, 145, 146, 147, 148, 149, 20, 76, 74, 75, 72, 1059, 1060, 1061, 1063] s s := fm_rf _ _ s
  have b1 := bi_41 I
  have b2 := bi_42 I
  have b3 := bi_39 I
  have b4 := bi_40 I
  refine z_aload_n X (x := A 0) rfl (List.Mem.head _) (z_load_n X (x := u) rfl (List.Mem.tail _ (List.Mem.head _)) (z_callV X 0 (rm := rmN 183) (As := [.int (Int32.ofInt u)]) (st := []) rfl rfl (by decide) rfl (by rw [E.1, E.2.1, E.2.2.1]; exact cs_needQuarter6 G I (by first | exact ⟨p0.1, p0.2⟩ | omega)) ⟨by rw [E.2.2.2]; exact (show (rmN 183).frames + 1 ≤ (rmN 170).frames by decide), by rw [E.2.2.2]; exact (show 8 + (mNL (miB 183) + 11) + (rmN 183).locals ≤ (rmN 170).locals by decide), by rw [E.2.2.2]; exact (show 0 + 1 ≤ 4 by decide), by rw [E.2.2.2]; exact (show 0 + 6 ≤ 24 by decide)⟩ (Nat.le_of_ble_eq_true rfl) (fun vv s5 hq => ?_) (fun ee s5 hq => ?_)))
  rotate_left
  · obtain ⟨Is5, Fs5, (⟨hv, hps5⟩ | ⟨xx, hv, hps5⟩)⟩ := hq
    · cases hv
    · cases hv
      have Gs5 := fm_tq F Fs5 rfl rfl
      have JAIR_s5 : AIR s5 := AIR_fm Fs5 (by decide) jAIR
      have JCDJ_s5 : CDJ U s5 := CDJ_fm Fs5 (by decide) jCDJ
      have JPMJ_s5 : PMJ s5 := PMJ_fm Fs5 (by decide) jPMJ
      have ws5_41 : iI s5 41 = iI s 41 := fm_iq Fs5 rfl
      have ws5_42 : iI s5 42 = iI s 42 := fm_iq Fs5 rfl
      have ws5_39 : iI s5 39 = iI s 39 := fm_iq Fs5 rfl
      have ws5_40 : iI s5 40 = iI s 40 := fm_iq Fs5 rfl
      exact x_out X.1 q (fun x hx => (hXt x hx).elim) (show 1 ≤ 4 by decide) (show 6 ≤ 24 by decide) ⟨_, rfl, Is5, Gs5, Or.inr ⟨xx, rfl, by omega⟩⟩
  obtain ⟨Is5, Fs5, (⟨hv, hps5⟩ | ⟨xx, hv, hps5⟩)⟩ := hq
  rotate_left
  · cases hv
  cases hv
  have Gs5 := fm_tq F Fs5 rfl rfl
  have JAIR_s5 : AIR s5 := AIR_fm Fs5 (by decide) jAIR
  have JCDJ_s5 : CDJ U s5 := CDJ_fm Fs5 (by decide) jCDJ
  have JPMJ_s5 : PMJ s5 := PMJ_fm Fs5 (by decide) jPMJ
  have ws5_41 : iI s5 41 = iI s 41 := fm_iq Fs5 rfl
  have ws5_42 : iI s5 42 = iI s 42 := fm_iq Fs5 rfl
  have ws5_39 : iI s5 39 = iI s 39 := fm_iq Fs5 rfl
  have ws5_40 : iI s5 40 = iI s 40 := fm_iq Fs5 rfl
  show WS k 5 [(0, .ref (A 0)), (1, .int (Int32.ofInt u)), (2, .int (Int32.ofInt v)), (3, .int (Int32.ofInt w)), (4, .int (Int32.ofInt p))] [] (Wd A dT s5) 1 6
  refine z_aload_n X (x := A 0) rfl (List.Mem.head _) (z_load_n X (x := v) rfl (List.Mem.tail _ (List.Mem.tail _ (List.Mem.head _))) (z_const X rfl (z_bipush X rfl (z_callV X 0 (rm := rmN 184) (As := [.int (Int32.ofInt v), .int (Int32.ofInt 0), .int (Int32.ofInt 8)]) (st := []) rfl rfl (by decide) rfl (by rw [E.1, E.2.1, E.2.2.1]; exact cs_needWithin2 G Is5 (by first | exact ⟨p1.1, p1.2⟩ | omega) (by first | exact ⟨by decide, by decide⟩ | omega) (by first | exact ⟨by decide, by decide⟩ | omega)) ⟨by rw [E.2.2.2]; exact (show (rmN 184).frames + 1 ≤ (rmN 170).frames by decide), by rw [E.2.2.2]; exact (show 8 + (mNL (miB 184) + 11) + (rmN 184).locals ≤ (rmN 170).locals by decide), by rw [E.2.2.2]; exact (show 1 + 1 ≤ 4 by decide), by rw [E.2.2.2]; exact (show 6 + 6 ≤ 24 by decide)⟩ (Nat.le_of_ble_eq_true rfl) (fun vv s7 hq => ?_) (fun ee s7 hq => ?_)))))
  rotate_left
  · obtain ⟨Is7, Fs7, (⟨hv, hps7⟩ | ⟨xx, hv, hps7⟩)⟩ := hq
    · cases hv
    · cases hv
      have Gs7 := fm_tq Gs5 Fs7 rfl rfl
      have JAIR_s7 : AIR s7 := AIR_fm Fs7 (by decide) JAIR_s5
      have JCDJ_s7 : CDJ U s7 := CDJ_fm Fs7 (by decide) JCDJ_s5
      have JPMJ_s7 : PMJ s7 := PMJ_fm Fs7 (by decide) JPMJ_s5
      have ws7_41 : iI s7 41 = iI s5 41 := fm_iq Fs7 rfl
      have ws7_42 : iI s7 42 = iI s5 42 := fm_iq Fs7 rfl
      have ws7_39 : iI s7 39 = iI s5 39 := fm_iq Fs7 rfl
      have ws7_40 : iI s7 40 = iI s5 40 := fm_iq Fs7 rfl
      exact x_out X.1 q (fun x hx => (hXt x hx).elim) (show (1 + 1) ≤ 4 by decide) (show (6 + 6) ≤ 24 by decide) ⟨_, rfl, Is7, Gs7, Or.inr ⟨xx, rfl, by first | (clear hps5; omega) | omega⟩⟩
  obtain ⟨Is7, Fs7, (⟨hv, hps7⟩ | ⟨xx, hv, hps7⟩)⟩ := hq
  rotate_left
  · cases hv
  cases hv
  have Gs7 := fm_tq Gs5 Fs7 rfl rfl
  have JAIR_s7 : AIR s7 := AIR_fm Fs7 (by decide) JAIR_s5
  have JCDJ_s7 : CDJ U s7 := CDJ_fm Fs7 (by decide) JCDJ_s5
  have JPMJ_s7 : PMJ s7 := PMJ_fm Fs7 (by decide) JPMJ_s5
  have ws7_41 : iI s7 41 = iI s5 41 := fm_iq Fs7 rfl
  have ws7_42 : iI s7 42 = iI s5 42 := fm_iq Fs7 rfl
  have ws7_39 : iI s7 39 = iI s5 39 := fm_iq Fs7 rfl
  have ws7_40 : iI s7 40 = iI s5 40 := fm_iq Fs7 rfl
  show WS k 13 [(0, .ref (A 0)), (1, .int (Int32.ofInt u)), (2, .int (Int32.ofInt v)), (3, .int (Int32.ofInt w)), (4, .int (Int32.ofInt p))] [] (Wd A dT s7) (1 + 1) (6 + 6)
  refine z_aload_n X (x := A 0) rfl (List.Mem.head _) (z_load_n X (x := w) rfl (List.Mem.tail _ (List.Mem.tail _ (List.Mem.tail _ (List.Mem.head _)))) (z_const X rfl (z_bipush X rfl (z_callV X 0 (rm := rmN 184) (As := [.int (Int32.ofInt w), .int (Int32.ofInt 0), .int (Int32.ofInt 8)]) (st := []) rfl rfl (by decide) rfl (by rw [E.1, E.2.1, E.2.2.1]; exact cs_needWithin2 G Is7 (by first | exact ⟨p2.1, p2.2⟩ | omega) (by first | exact ⟨by decide, by decide⟩ | omega) (by first | exact ⟨by decide, by decide⟩ | omega)) ⟨by rw [E.2.2.2]; exact (show (rmN 184).frames + 1 ≤ (rmN 170).frames by decide), by rw [E.2.2.2]; exact (show 8 + (mNL (miB 184) + 11) + (rmN 184).locals ≤ (rmN 170).locals by decide), by rw [E.2.2.2]; exact (show (1 + 1) + 1 ≤ 4 by decide), by rw [E.2.2.2]; exact (show (6 + 6) + 6 ≤ 24 by decide)⟩ (Nat.le_of_ble_eq_true rfl) (fun vv s9 hq => ?_) (fun ee s9 hq => ?_)))))
  rotate_left
  · obtain ⟨Is9, Fs9, (⟨hv, hps9⟩ | ⟨xx, hv, hps9⟩)⟩ := hq
    · cases hv
    · cases hv
      have Gs9 := fm_tq Gs7 Fs9 rfl rfl
      have JAIR_s9 : AIR s9 := AIR_fm Fs9 (by decide) JAIR_s7
      have JCDJ_s9 : CDJ U s9 := CDJ_fm Fs9 (by decide) JCDJ_s7
      have JPMJ_s9 : PMJ s9 := PMJ_fm Fs9 (by decide) JPMJ_s7
      have ws9_41 : iI s9 41 = iI s7 41 := fm_iq Fs9 rfl
      have ws9_42 : iI s9 42 = iI s7 42 := fm_iq Fs9 rfl
      have ws9_39 : iI s9 39 = iI s7 39 := fm_iq Fs9 rfl
      have ws9_40 : iI s9 40 = iI s7 40 := fm_iq Fs9 rfl
      exact x_out X.1 q (fun x hx => (hXt x hx).elim) (show ((1 + 1) + 1) ≤ 4 by decide) (show ((6 + 6) + 6) ≤ 24 by decide) ⟨_, rfl, Is9, Gs9, Or.inr ⟨xx, rfl, by first | (clear hps7 hps5; omega) | (clear hps5; omega) | omega⟩⟩
  obtain ⟨Is9, Fs9, (⟨hv, hps9⟩ | ⟨xx, hv, hps9⟩)⟩ := hq
  rotate_left
  · cases hv
  cases hv
  have Gs9 := fm_tq Gs7 Fs9 rfl rfl
  have JAIR_s9 : AIR s9 := AIR_fm Fs9 (by decide) JAIR_s7
  have JCDJ_s9 : CDJ U s9 := CDJ_fm Fs9 (by decide) JCDJ_s7
  have JPMJ_s9 : PMJ s9 := PMJ_fm Fs9 (by decide) JPMJ_s7
  have ws9_41 : iI s9 41 = iI s7 41 := fm_iq Fs9 rfl
  have ws9_42 : iI s9 42 = iI s7 42 := fm_iq Fs9 rfl
  have ws9_39 : iI s9 39 = iI s7 39 := fm_iq Fs9 rfl
  have ws9_40 : iI s9 40 = iI s7 40 := fm_iq Fs9 rfl
  show WS k 21 [(0, .ref (A 0)), (1, .int (Int32.ofInt u)), (2, .int (Int32.ofInt v)), (3, .int (Int32.ofInt w)), (4, .int (Int32.ofInt p))] [] (Wd A dT s9) ((1 + 1) + 1) ((6 + 6) + 6)
  refine z_aload_n X (x := A 0) rfl (List.Mem.head _) (z_load X (x := p) rfl (List.Mem.tail _ (List.Mem.tail _ (List.Mem.tail _ (List.Mem.tail _ (List.Mem.head _))))) (z_bipush X rfl (z_bipush X rfl (z_callV X 0 (rm := rmN 184) (As := [.int (Int32.ofInt p), .int (Int32.ofInt (-2)), .int (Int32.ofInt 11)]) (st := []) rfl rfl (by decide) rfl (by rw [E.1, E.2.1, E.2.2.1]; exact cs_needWithin2 G Is9 (by first | exact ⟨p3.1, p3.2⟩ | omega) (by first | exact ⟨by decide, by decide⟩ | omega) (by first | exact ⟨by decide, by decide⟩ | omega)) ⟨by rw [E.2.2.2]; exact (show (rmN 184).frames + 1 ≤ (rmN 170).frames by decide), by rw [E.2.2.2]; exact (show 8 + (mNL (miB 184) + 11) + (rmN 184).locals ≤ (rmN 170).locals by decide), by rw [E.2.2.2]; exact (show ((1 + 1) + 1) + 1 ≤ 4 by decide), by rw [E.2.2.2]; exact (show ((6 + 6) + 6) + 6 ≤ 24 by decide)⟩ (Nat.le_of_ble_eq_true rfl) (fun vv s11 hq => ?_) (fun ee s11 hq => ?_)))))
  rotate_left
  · obtain ⟨Is11, Fs11, (⟨hv, hps11⟩ | ⟨xx, hv, hps11⟩)⟩ := hq
    · cases hv
    · cases hv
      have Gs11 := fm_tq Gs9 Fs11 rfl rfl
      have JAIR_s11 : AIR s11 := AIR_fm Fs11 (by decide) JAIR_s9
      have JCDJ_s11 : CDJ U s11 := CDJ_fm Fs11 (by decide) JCDJ_s9
      have JPMJ_s11 : PMJ s11 := PMJ_fm Fs11 (by decide) JPMJ_s9
      have ws11_41 : iI s11 41 = iI s9 41 := fm_iq Fs11 rfl
      have ws11_42 : iI s11 42 = iI s9 42 := fm_iq Fs11 rfl
      have ws11_39 : iI s11 39 = iI s9 39 := fm_iq Fs11 rfl
      have ws11_40 : iI s11 40 = iI s9 40 := fm_iq Fs11 rfl
      exact x_out X.1 q (fun x hx => (hXt x hx).elim) (show (((1 + 1) + 1) + 1) ≤ 4 by decide) (show (((6 + 6) + 6) + 6) ≤ 24 by decide) ⟨_, rfl, Is11, Gs11, Or.inr ⟨xx, rfl, by first | (clear hps9 hps7 hps5; omega) | (clear hps7 hps5; omega) | omega⟩⟩
  obtain ⟨Is11, Fs11, (⟨hv, hps11⟩ | ⟨xx, hv, hps11⟩)⟩ := hq
  rotate_left
  · cases hv
  cases hv
  have Gs11 := fm_tq Gs9 Fs11 rfl rfl
  have JAIR_s11 : AIR s11 := AIR_fm Fs11 (by decide) JAIR_s9
  have JCDJ_s11 : CDJ U s11 := CDJ_fm Fs11 (by decide) JCDJ_s9
  have JPMJ_s11 : PMJ s11 := PMJ_fm Fs11 (by decide) JPMJ_s9
  have ws11_41 : iI s11 41 = iI s9 41 := fm_iq Fs11 rfl
  have ws11_42 : iI s11 42 = iI s9 42 := fm_iq Fs11 rfl
  have ws11_39 : iI s11 39 = iI s9 39 := fm_iq Fs11 rfl
  have ws11_40 : iI s11 40 = iI s9 40 := fm_iq Fs11 rfl
  show WS k 31 [(0, .ref (A 0)), (1, .int (Int32.ofInt u)), (2, .int (Int32.ofInt v)), (3, .int (Int32.ofInt w)), (4, .int (Int32.ofInt p))] [] (Wd A dT s11) (((1 + 1) + 1) + 1) (((6 + 6) + 6) + 6)
  refine z_aload_n X (x := A 0) rfl (List.Mem.head _) (s_getR X 0 rfl (c518_ok rfl) rfl rfl (z_load_n X (x := u) rfl (List.Mem.tail _ (List.Mem.head _)) (z_callV X 67 (rm := rmN 89) (As := [.int (Int32.ofInt u)]) (st := []) rfl rfl (by decide) rfl (by rw [E.1, E.2.1, E.2.2.1]; exact c8_hits9 G Is11 JAIR_s11 JCDJ_s11 (by first | exact ⟨hps5.1, hps5.2⟩ | omega)) ⟨by rw [E.2.2.2]; exact (show (rmN 89).frames + 1 ≤ (rmN 170).frames by decide), by rw [E.2.2.2]; exact (show 8 + (mNL (miB 89) + 11) + (rmN 89).locals ≤ (rmN 170).locals by decide), by rw [E.2.2.2]; exact (show (((1 + 1) + 1) + 1) + 0 ≤ 4 by decide), by rw [E.2.2.2]; exact (show (((6 + 6) + 6) + 6) + 0 ≤ 24 by decide)⟩ (Nat.le_of_ble_eq_true rfl) (fun vv s13 hq => ?_) (fun ee s13 hq => ?_))))
  rotate_left
  · obtain ⟨Is13, Fs13, hv, hps13⟩ := hq; cases hv
  obtain ⟨Is13, Fs13, hv, hps13⟩ := hq
  cases hv
  have Gs13 := fm_tq Gs11 Fs13 rfl rfl
  have JAIR_s13 : AIR s13 := AIR_fm Fs13 (by decide) JAIR_s11
  have JCDJ_s13 : CDJ U s13 := CDJ_fm Fs13 (by decide) JCDJ_s11
  have JPMJ_s13 : PMJ s13 := PMJ_fm Fs13 (by decide) JPMJ_s11
  have b15 := bi_41 Is13
  have ws13_42 : iI s13 42 = iI s11 42 := fm_iq Fs13 rfl
  have b16 := bi_39 Is13
  have b17 := bi_40 Is13
  show WS k 39 [(0, .ref (A 0)), (1, .int (Int32.ofInt u)), (2, .int (Int32.ofInt v)), (3, .int (Int32.ofInt w)), (4, .int (Int32.ofInt p))] [] (Wd A dT s13) (((1 + 1) + 1) + 1) (((6 + 6) + 6) + 6)
  have hcu := jCDJ.1.1
  have hn9 : (iI s 9).toNat = uN U := by first | (clear hps11 hps9 hps7 hps5; omega) | (clear hps9 hps7 hps5; omega) | omega
  have hFH := hps13.2
  rw [show stS s11 = stS s from sts_s (sbs_fm Gs11 (by decide))] at hFH
  rw [show iI s11 9 = iI s 9 from fm_i Gs11 (by decide)] at hFH
  have hFQ := hFH
  unfold FHQ at hFQ
  rw [hn9] at hFQ
  have hF1 := hFQ.1
  have hQ9 : (iI s13 39).toNat = (u : Int).toNat := congrArg Int.toNat hps13.1
  have hS9 : stS s13 = stS s := sts_s (sbs_fm Gs13 (by decide))
  have hc9 : iI s13 9 = iI s 9 := fm_iq Gs13 rfl
  refine z_load X (x := p) rfl (List.Mem.tail _ (List.Mem.tail _ (List.Mem.tail _ (List.Mem.tail _ (List.Mem.head _))))) (z_bipush X rfl (z_icmp_ne X (t := 54) rfl rfl ⟨by first | exact p3.1 | omega, by first | exact p3.2 | omega⟩ (by decide) (fun g18 => ?_) (fun g18 => ?_)))
  ·
    refine z_aload_n X (x := A 0) rfl (List.Mem.head _) (s_getR X 0 rfl (c518_ok rfl) rfl rfl (z_load_n X (x := v) rfl (List.Mem.tail _ (List.Mem.tail _ (List.Mem.head _))) (z_load_n X (x := w) rfl (List.Mem.tail _ (List.Mem.tail _ (List.Mem.tail _ (List.Mem.head _)))) (z_callV X 67 (rm := rmN 91) (As := [.int (Int32.ofInt v), .int (Int32.ofInt w)]) (st := []) rfl rfl (by decide) rfl (by rw [E.1, E.2.1, E.2.2.1]; exact c8_solve9 G GR Is13 JAIR_s13 JCDJ_s13 JPMJ_s13 (by first | exact ⟨hps7.1, hps7.2⟩ | omega) (by first | exact ⟨hps9.1, hps9.2⟩ | omega) (by rw [hQ9, hS9, hc9]; exact hFH)) ⟨by rw [E.2.2.2]; exact (show (rmN 91).frames + 1 ≤ (rmN 170).frames by decide), by rw [E.2.2.2]; exact (show 8 + (mNL (miB 91) + 11) + (rmN 91).locals ≤ (rmN 170).locals by decide), by rw [E.2.2.2]; exact (show (((1 + 1) + 1) + 1) + 0 ≤ 4 by decide), by rw [E.2.2.2]; exact (show (((6 + 6) + 6) + 6) + 0 ≤ 24 by decide)⟩ (Nat.le_of_ble_eq_true rfl) (fun vv s19 hq => ?_) (fun ee s19 hq => ?_)))))
    rotate_left
    · obtain ⟨Is19, Fs19, e20, hv, hrs19, hps19⟩ := hq; cases hv
    obtain ⟨Is19, Fs19, e20, hv, hrs19, hps19⟩ := hq
    cases hv
    have Gs19 := fm_ts Gs13 Fs19 (by decide) (by decide +kernel)
    have ws19_41 : iI s19 41 = iI s13 41 := fm_iq Fs19 rfl
    have b21 := bi_42 Is19
    have ws19_39 : iI s19 39 = iI s13 39 := fm_iq Fs19 rfl
    have ws19_40 : iI s19 40 = iI s13 40 := fm_iq Fs19 rfl
    show WS k 63 [(0, .ref (A 0)), (1, .int (Int32.ofInt u)), (2, .int (Int32.ofInt v)), (3, .int (Int32.ofInt w)), (4, .int (Int32.ofInt p))] [.int (Int32.ofInt e20)] (Wd A dT s19) (((1 + 1) + 1) + 1) (((6 + 6) + 6) + 6)
    have hSV := hps19
    rw [hQ9, hS9, show pfC s13 = pfC s from funext (fun j => fm_c Gs13 (by decide)), show (fun j => iC s13 24 j) = (fun j => iC s 24 j) from funext (fun j => fm_c Gs13 (by decide))] at hSV
    refine z_if_ne X (t := 68) rfl rfl hrs19 (fun g22 => ?_) (fun g22 => ?_)
    ·
      have hS2 := hSV.elim (fun z => absurd z.2 (by first | (clear g22 hps19 g18 hps11 hps9 hps7 hps5; omega) | (clear hps19 g18 hps11 hps9 hps7 hps5; omega) | omega)) (fun z => z)
      have hS21 := hS2.1
      have hb9 : iI s19 42 ≠ 2147483647 := hS2.2.2.elim (fun z => z.2) (fun z => absurd z.1 (by first | (clear g22 hps19 g18 hps11 hps9 hps7 hps5; omega) | (clear hps19 g18 hps11 hps9 hps7 hps5; omega) | omega))
      refine z_load X (x := p) rfl (List.Mem.tail _ (List.Mem.tail _ (List.Mem.tail _ (List.Mem.tail _ (List.Mem.head _))))) (z_const X rfl (z_icmp_ne X (t := 84) rfl rfl ⟨by first | exact p3.1 | omega, by first | exact p3.2 | omega⟩ (by decide) (fun g23 => ?_) (fun g23 => ?_)))
      ·
        refine z_aload_n X (x := A 0) rfl (List.Mem.head _) (s_getR X 0 rfl (c518_ok rfl) rfl rfl (z_load X (x := p) rfl (List.Mem.tail _ (List.Mem.tail _ (List.Mem.tail _ (List.Mem.tail _ (List.Mem.head _))))) (z_callV X 67 (rm := rmN 90) (As := [.int (Int32.ofInt p)]) (st := []) rfl rfl (by decide) rfl (by rw [E.1, E.2.1, E.2.2.1]; exact c8_mendOf9 G Is19 (by first | exact ⟨p3.1, p3.2⟩ | omega)) ⟨by rw [E.2.2.2]; exact (show (rmN 90).frames + 1 ≤ (rmN 170).frames by decide), by rw [E.2.2.2]; exact (show 8 + (mNL (miB 90) + 11) + (rmN 90).locals ≤ (rmN 170).locals by decide), by rw [E.2.2.2]; exact (show (((1 + 1) + 1) + 1) + 0 ≤ 4 by decide), by rw [E.2.2.2]; exact (show (((6 + 6) + 6) + 6) + 0 ≤ 24 by decide)⟩ (Nat.le_of_ble_eq_true rfl) (fun vv s24 hq => ?_) (fun ee s24 hq => ?_))))
        rotate_left
        · obtain ⟨Is24, Fs24, e25, hv, hrs24, hps24⟩ := hq; cases hv
        obtain ⟨Is24, Fs24, e25, hv, hrs24, hps24⟩ := hq
        cases hv
        have Gs24 := fm_tq Gs19 Fs24 rfl rfl
        have ws24_41 : iI s24 41 = iI s19 41 := fm_iq Fs24 rfl
        have ws24_42 : iI s24 42 = iI s19 42 := fm_iq Fs24 rfl
        have ws24_39 : iI s24 39 = iI s19 39 := fm_iq Fs24 rfl
        have ws24_40 : iI s24 40 = iI s19 40 := fm_iq Fs24 rfl
        show WS k 93 [(0, .ref (A 0)), (1, .int (Int32.ofInt u)), (2, .int (Int32.ofInt v)), (3, .int (Int32.ofInt w)), (4, .int (Int32.ofInt p))] [.int (Int32.ofInt e25)] (Wd A dT s24) (((1 + 1) + 1) + 1) (((6 + 6) + 6) + 6)
        exact w_iret X.1 q hRt rfl (ax_d X (show cdA 170 93 = some (.ireturn, 1, 0, 0, 0) from rfl)) (show (((1 + 1) + 1) + 1) ≤ 4 by decide) (show (((6 + 6) + 6) + 6) ≤ 24 by decide) ⟨_, rfl, Is24, Gs24, Or.inl ⟨e25, rfl, hrs24, ⟨by first | exact ⟨hps5.1, hps5.2⟩ | omega, by first | exact ⟨hps7.1, hps7.2⟩ | omega, by first | exact ⟨hps9.1, hps9.2⟩ | omega, by first | exact ⟨hps11.1, hps11.2⟩ | omega, mne_s hS2.2.1 hb9 (by first | (clear g23 g22 hps19 g18 hps11 hps9 hps7 hps5; omega) | (clear g22 hps19 g18 hps11 hps9 hps7 hps5; omega) | omega) (by first | (clear g23 g22 hps19 g18 hps11 hps9 hps7 hps5; omega) | (clear g22 hps19 g18 hps11 hps9 hps7 hps5; omega) | omega) ((fm_i Fs19 (by decide)).trans hF1) (by have z := hFQ.2.2; rw [show (fun j => iC s19 72 j) = (fun j => iC s13 72 j) from funext (fun j => fm_c Fs19 (by decide))]; exact z) hps24⟩⟩⟩
      ·
        refine z_aload_n X (x := A 0) rfl (List.Mem.head _) (s_getR X 0 rfl (c518_ok rfl) rfl rfl (z_getI X 67 rfl (c518_ok rfl) rfl rfl ?_))
        have b26 := bi_42 Is19
        refine z_goto X (t := 93) rfl rfl ?_
        exact w_iret X.1 q hRt rfl (ax_d X (show cdA 170 93 = some (.ireturn, 1, 0, 0, 0) from rfl)) (show (((1 + 1) + 1) + 1) ≤ 4 by decide) (show (((6 + 6) + 6) + 6) ≤ 24 by decide) ⟨_, rfl, Is19, Gs19, Or.inl ⟨(iI s19 42), rfl, (rng_to _), ⟨by first | exact ⟨hps5.1, hps5.2⟩ | omega, by first | exact ⟨hps7.1, hps7.2⟩ | omega, by first | exact ⟨hps9.1, hps9.2⟩ | omega, by first | exact ⟨hps11.1, hps11.2⟩ | omega, mne_m hS2.2.1 hb9 (by first | (clear g22 hps19 g18 hps11 hps9 hps7 hps5; omega) | (clear hps19 g18 hps11 hps9 hps7 hps5; omega) | omega) (by first | (clear g22 hps19 g18 hps11 hps9 hps7 hps5; omega) | (clear hps19 g18 hps11 hps9 hps7 hps5; omega) | omega) ⟨by first | (clear g22 hps19 g18 hps11 hps9 hps7 hps5; omega) | (clear hps19 g18 hps11 hps9 hps7 hps5; omega) | omega, rfl⟩⟩⟩⟩
    ·
      refine z_const X rfl ?_
      exact w_iret X.1 q hRt rfl (ax_d X (show cdA 170 67 = some (.ireturn, 1, 0, 0, 0) from rfl)) (show (((1 + 1) + 1) + 1) ≤ 4 by decide) (show (((6 + 6) + 6) + 6) ≤ 24 by decide) ⟨_, rfl, Is19, Gs19, Or.inl ⟨(-1), rfl, (by decide), ⟨by first | exact ⟨hps5.1, hps5.2⟩ | omega, by first | exact ⟨hps7.1, hps7.2⟩ | omega, by first | exact ⟨hps9.1, hps9.2⟩ | omega, by first | exact ⟨hps11.1, hps11.2⟩ | omega, Or.inr (Or.inl ⟨by first | (clear hps19 g18 hps11 hps9 hps7 hps5; omega) | (clear g18 hps11 hps9 hps7 hps5; omega) | omega, hSV.elim (fun z => Or.inl (by have := z.1; omega)) (fun z => Or.inr (bss_0 z.2.1 (z.2.2.elim (fun y => absurd y.1 (by first | (clear hps19 g18 hps11 hps9 hps7 hps5; omega) | (clear g18 hps11 hps9 hps7 hps5; omega) | omega)) (fun y => y.2)))), rfl⟩)⟩⟩⟩
  ·
    refine z_aload_n X (x := A 0) rfl (List.Mem.head _) (s_getR X 0 rfl (c518_ok rfl) rfl rfl (z_getI X 67 rfl (c518_ok rfl) rfl rfl ?_))
    have b27 := bi_40 Is13
    exact w_iret X.1 q hRt rfl (ax_d X (show cdA 170 53 = some (.ireturn, 1, 0, 0, 0) from rfl)) (show (((1 + 1) + 1) + 1) ≤ 4 by decide) (show (((6 + 6) + 6) + 6) ≤ 24 by decide) ⟨_, rfl, Is13, Gs13, Or.inl ⟨(iI s13 40), rfl, (rng_to _), ⟨by first | exact ⟨hps5.1, hps5.2⟩ | omega, by first | exact ⟨hps7.1, hps7.2⟩ | omega, by first | exact ⟨hps9.1, hps9.2⟩ | omega, by first | exact ⟨hps11.1, hps11.2⟩ | omega, Or.inl ⟨by first | (clear hps11 hps9 hps7 hps5; omega) | (clear hps9 hps7 hps5; omega) | omega, rng_to _, hFQ.2.1⟩⟩⟩⟩
set_option maxRecDepth 4000 in
theorem lw_mends9 (G : GX l s0 D tys a0 dT) (GR : RS0 s0) {U : AirD} (I : Bd s) (jAIR : AIR s) (jCDJ : CDJ U s) (jPMJ : PMJ s) {u v w p : Int} (p0 : rng u) (p1 : rng v) (p2 : rng w) (p3 : rng p) : CTL l s0 D A dT 344 (rmN 344) [.ref (A 0), .int (Int32.ofInt u), .int (Int32.ofInt v), .int (Int32.ofInt w), .int (Int32.ofInt p), .ref (A 517)] s (fun o t => Bd t ∧ Fm [43, 44, 46, 47, 49, 50, 52, 53, 55, 56, 58, 59, 61, 62, 64, 65, 67, 68, 42, 39, 40, 41] [57, 58, 67, 62, 77, 78, 79, 73, 87, 80, 81, 82, 83, 84, 85, 86, 96, 89, 90, 91, 92, 93, 94, 95, 105, 98, 99, 100, 101, 102, 103, 104, 114, 107, 108, 109, 110, 111, 112, 113, 123, 116, 117, 118, 119, 120, 121, 122, 132, 125, 126, 127, 128, 129, 130, 131, 141, 134, 135, 136, 137, 138, 139, 140, 150, 143, 144, 145, 146, 147, 148, 149, 20, 76, 74, 75, 72, 1059, 1060, 1061, 1063, 1460] s t ∧ ∃ e, o = .inl (some (.int (Int32.ofInt e))) ∧ rng e ∧ ((e = 0 ∧ (0 ≤ u ∧ u ≤ 23) ∧ (0 ≤ v ∧ v ≤ 8) ∧ (0 ≤ w ∧ w ≤ 8) ∧ (-2 ≤ p ∧ p ≤ 11) ∧ MNE U (stS s) (u : Int).toNat (fitK9 U (stS s) (u : Int).toNat (pfC s) (fun j => iC s 24 j)) v w p (iO t)) ∨ (e = 1 ∧ (u < 0 ∨ 23 < u ∨ v < 0 ∨ 8 < v ∨ w < 0 ∨ 8 < w ∨ p < -2 ∨ 11 < p)))) := by
  refine ctL_of G (by decide) (Nat.le_of_ble_eq_true rfl) (by decide) rfl (fun k X E ET hRt hEx q => ?_)
  show WS k 0 [(0, .ref (A 0)), (1, .int (Int32.ofInt u)), (2, .int (Int32.ofInt v)), (3, .int (Int32.ofInt w)), (4, .int (Int32.ofInt p)), (5, .ref (A 517))] [] _ 0 0
  have F : Fm [43, 44, 46, 47, 49, 50, 52, 53, 55, 56, 58, 59, 61, 62, 64, 65, 67, 68, 42, 39, 40, 41] [57, 58, 67, 62, 77, 78, 79, 73, 87, 80, 81, 82, 83, 84, 85, 86, 96, 89, 90, 91, 92, 93, 94, 95, 105, 98, 99, 100, 101, 102, 103, 104, 114, 107, 108, 109, 110, 111, 112, 113, 123, 116, 117, 118, 119, 120, 121, 122, 132, 125, 126, 127, 128, 129, 130, 131, 141, 134, 135, 136, 137, 138, 139, 140, 150, 143, 144, 145, 146, 147, 148, 149, 20, 76, 74, 75, 72, 1059, 1060, 1061, 1063, 1460] s s := fm_rf _ _ s
  have hA := swA_rf A
  refine z_aload X (x := A 517) rfl (List.Mem.tail _ (List.Mem.tail _ (List.Mem.tail _ (List.Mem.tail _ (List.Mem.tail _ (List.Mem.head _)))))) (z_const X rfl (z_aload_n X (x := A 0) rfl (List.Mem.head _) (z_load_n X (x := u) rfl (List.Mem.tail _ (List.Mem.head _)) (z_load_n X (x := v) rfl (List.Mem.tail _ (List.Mem.tail _ (List.Mem.head _))) (z_load_n X (x := w) rfl (List.Mem.tail _ (List.Mem.tail _ (List.Mem.tail _ (List.Mem.head _)))) (z_load X (x := p) rfl (List.Mem.tail _ (List.Mem.tail _ (List.Mem.tail _ (List.Mem.tail _ (List.Mem.head _))))) (z_callV X 0 (rm := rmN 170) (As := [.int (Int32.ofInt u), .int (Int32.ofInt v), .int (Int32.ofInt w), .int (Int32.ofInt p)]) (st := [.int (Int32.ofInt 0), .ref (A 517)]) rfl rfl (by decide) rfl (by rw [E.1, E.2.1, E.2.2.1]; exact cs_mends9 G GR I jAIR jCDJ jPMJ (by omega) (by omega) (by omega) (by omega)) ⟨by rw [E.2.2.2]; exact (show (rmN 170).frames + 1 ≤ (rmN 344).frames by decide), by rw [E.2.2.2]; exact (show 8 + (mNL (miB 170) + 11) + (rmN 170).locals ≤ (rmN 344).locals by decide), by rw [E.2.2.2]; exact (show 0 + (rmN 170).cells ≤ (rmN 344).cells by decide), by rw [E.2.2.2]; exact (show 0 + (rmN 170).slots ≤ (rmN 344).slots by decide)⟩ (Nat.le_of_ble_eq_true rfl) (fun vv s1 hq => ?_) (fun ee s1 hq => ?_))))))))
  rotate_left
  · obtain ⟨Is1, Fs1, (⟨e2, hv, hrs1, hps1⟩ | ⟨xx, hv, hps1⟩)⟩ := hq
    · cases hv
    · cases hv
      rcases (show xx = 0 by omega) with gx
      ·
        subst gx
        have Gs1 := fm_ts F Fs1 (by decide) (by decide +kernel)
        refine (hEx 9 0).2 17 rfl _ _ _ _ _ (fun q1 => ?_)
        show WS k 17 [(0, .ref (A 0)), (1, .int (Int32.ofInt u)), (2, .int (Int32.ofInt v)), (3, .int (Int32.ofInt w)), (4, .int (Int32.ofInt p)), (5, .ref (A 517))] [.ref q1] (Wd A dT s1) 4 24
        refine z_astore X (lv' := [(6, .ref q1), (0, .ref (A 0)), (1, .int (Int32.ofInt u)), (2, .int (Int32.ofInt v)), (3, .int (Int32.ofInt w)), (4, .int (Int32.ofInt p)), (5, .ref (A 517))]) rfl (by decide) (fun _ h => h) (z_const X rfl ?_)
        exact w_iret X.1 q hRt rfl (ax_d X (show cdA 344 20 = some (.ireturn, 1, 0, 0, 0) from rfl)) (show 4 ≤ 4 by decide) (show 24 ≤ 24 by decide) ⟨A, _, hA, rfl, Is1, Gs1, 1, rfl, (by decide), Or.inr ⟨by decide, by omega⟩⟩
  obtain ⟨Is1, Fs1, (⟨e2, hv, hrs1, hps1⟩ | ⟨xx, hv, hps1⟩)⟩ := hq
  rotate_left
  · cases hv
  cases hv
  have Gs1 := fm_ts F Fs1 (by decide) (by decide +kernel)
  show WS k 12 [(0, .ref (A 0)), (1, .int (Int32.ofInt u)), (2, .int (Int32.ofInt v)), (3, .int (Int32.ofInt w)), (4, .int (Int32.ofInt p)), (5, .ref (A 517))] [.int (Int32.ofInt e2), .int (Int32.ofInt 0), .ref (A 517)] (Wd A dT s1) 4 24
  refine w_i2l X.1 (ax_d X (show cdA 344 12 = some (.i2l, 1, 0, 0, 0) from rfl)) (z_last X 517 rfl (c518_ok rfl) rfl (by first | (clear hps1; omega) | omega) (show 0 < 1 by first | (clear hps1; omega) | omega) (cbig_ok rfl) (wd_gen (fun s3 hs3 => ?_)))
  have Is3 : Bd s3 := eqB hs3 (bd_D Is1)
  have Fs3 : Fm [43, 44, 46, 47, 49, 50, 52, 53, 55, 56, 58, 59, 61, 62, 64, 65, 67, 68, 42, 39, 40, 41] [57, 58, 67, 62, 77, 78, 79, 73, 87, 80, 81, 82, 83, 84, 85, 86, 96, 89, 90, 91, 92, 93, 94, 95, 105, 98, 99, 100, 101, 102, 103, 104, 114, 107, 108, 109, 110, 111, 112, 113, 123, 116, 117, 118, 119, 120, 121, 122, 132, 125, 126, 127, 128, 129, 130, 131, 141, 134, 135, 136, 137, 138, 139, 140, 150, 143, 144, 145, 146, 147, 148, 149, 20, 76, 74, 75, 72, 1059, 1060, 1061, 1063, 1460] s s3 := by rw [hs3]; exact fm_D Gs1 (show 460 + 1000 ∈ _ by decide)
  have oos3 : iO s3 = e2 := by rw [hs3]; exact iO_u (by first | (clear hps1; omega) | omega)
  refine z_goto X (t := 21) rfl rfl (z_const X rfl ?_)
  exact w_iret X.1 q hRt rfl (ax_d X (show cdA 344 22 = some (.ireturn, 1, 0, 0, 0) from rfl)) (show 4 ≤ 4 by decide) (show 24 ≤ 24 by decide) ⟨A, _, hA, rfl, Is3, Fs3, 0, rfl, (by decide), Or.inl ⟨by decide, by first | (clear hps1; omega) | omega, by first | (clear hps1; omega) | omega, by first | (clear hps1; omega) | omega, by first | (clear hps1; omega) | omega, by rw [show iO s3 = e2 by first | (clear hps1; omega) | omega]; exact hps1.2.2.2.2⟩⟩
end M87ky
