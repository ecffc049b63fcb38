section
/-! One air for both: what the law's relations come to -/
def LIJ (s : PS) : Prop := iI s 90 ≤ 12 ∧ ∀ x c : Nat, (x : Int) < iI s 90 → c < 128 → (iC s (178 + x) c = -1 ∧ ∀ k : Nat, (k : Int) < iC s 162 x → iC s (166 + x) k ≠ (c : Int)) ∨ ∃ k : Nat, (k : Int) < iC s 162 x ∧ iC s (166 + x) k = (c : Int) ∧ iC s (178 + x) c = (k : Int)
theorem LIJ_fm {L M : List Nat} {s t : PS} (F : Fm L M s t) (h : 90 ∉ L ∧ 162 ∉ M ∧ ∀ i, i < 12 → 166 + i ∉ M ∧ 178 + i ∉ M) (r : LIJ s) : LIJ t := ⟨by rw [fm_i F h.1]; exact r.1, fun x c hx hc => by
  rw [fm_i F h.1] at hx
  have n := r.1
  have w := h.2.2 x (by omega)
  rw [fm_c F h.2.1, fm_c F w.2]
  have e : ∀ k, iC t (166 + x) k = iC s (166 + x) k := fun k => fm_c F w.1
  simp only [e]
  exact r.2 x c hx hc⟩
theorem lij_up {B : Nat → Int} {y : Int} {s t : PS} (h : WNM B y s t) (r : LIJ s) (n : 0 ≤ iI s 90) (n1 : iI t 90 ≤ 12) : LIJ t := ⟨n1, fun x c hx hc => by
  have n0 := r.1
  rcases h with ⟨h1, h2⟩ | ⟨h1, h2, h3⟩
  · have hx' : (x : Int) < iI s 90 := by omega
    have hx2 : x < 12 := by omega
    obtain ⟨q1, q2⟩ := h2
    have e1 : iC t 162 x = iC s 162 x := q1 x
    have e2 : ∀ k, iC t (166 + x) k = iC s (166 + x) k := fun k => (q2 x k hx2).1
    have e3 : iC t (178 + x) c = iC s (178 + x) c := (q2 x c hx2).2
    rw [e1, e3]
    simp only [e2]
    exact r.2 x c hx' hc
  · obtain ⟨a, a1, a2, a3, a4, a5, a6, a7⟩ := h2
    by_cases z : x = (iI s 90).toNat
    · rw [z, a4]
      have k24 : ∀ k : Nat, (k : Int) < a.1 → (k : Int) < 24 := fun k hk => by omega
      rcases h3 a a1 c hc with ⟨b1, b2⟩ | ⟨k, b1, b2, b3, b4⟩
      · exact Or.inl ⟨b1, fun k hk => by rw [a7 k (k24 k hk) hk]; exact b2 k (k24 k hk) hk⟩
      · exact Or.inr ⟨k, b2, by rw [a7 k b1 b2]; exact b3, b4⟩
    · have hx' : (x : Int) < iI s 90 := by omega
      have hx2 : x < (iI s 90).toNat := by omega
      have e1 : iC t 162 x = iC s 162 x := a5 x hx2
      have e2 : ∀ k, iC t (166 + x) k = iC s (166 + x) k := fun k => (a6 x k hx2).1
      have e3 : iC t (178 + x) c = iC s (178 + x) c := (a6 x c hx2).2
      rw [e1, e3]
      simp only [e2]
      exact r.2 x c hx' hc⟩
/-- streams that are not there yet: nobody flies them -/
def NZJ (s : PS) : Prop := ∀ x k : Int, iI s 9 ≤ x → 0 ≤ x → x ≤ 11 → 0 ≤ k → k ≤ 23 → CNR s x k = 0
theorem nzj_m {s : PS} (h : NZJ s) (m : MOI s) {x : Int} (x0 : iI s 9 ≤ x) (x1 : 0 ≤ x) (x2 : x ≤ 11) : ∀ q : Nat, q < 24 → iC s 11 ((q : Int) * 12 + x).toNat = 0 := fun q hq => by
  have w := m.1 x (q : Int) x1 x2 (by omega) (by omega)
  rcases w.2.2 with w | ⟨k, k0, k1, k2, k3, k4⟩
  · exact w
  · rw [← k4]; exact h x k x0 x1 x2 k0 k1
theorem mx_cg {f f' : Int → Int} {l h g : Int} (m : MXG f l h g) (hf : ∀ k : Int, 0 ≤ k → k ≤ 23 → f k = f' k) : MXG f' l h g := ⟨m.1, fun k k0 k1 a b => by rw [← hf k k0 k1]; exact m.2.1 k k0 k1 a b, m.2.2.imp id (fun ⟨k, k0, k1, a, b, e⟩ => ⟨k, k0, k1, a, b, (hf k k0 k1).symm.trans e⟩)⟩
/-- the air of both -/
theorem air_U {s : PS} (hA : AIR s) (hW : WQJ s) (hL : LIJ s) (hM : MQJ s) (hT : TWJ s) (hR : RLJ s) (hn : iI s 9 = iI s 90) (c0 : 0 ≤ iI s 9) : ∃ U : AirD, CDJ U s ∧ MDJ U s ∧ CCJ U s := by
  obtain ⟨L, r1, r2, r3⟩ := hR
  have n12 := hA.1
  have en : (((iI s 9).toNat : Nat) : Int) = iI s 9 := by omega
  have wk : ∀ x : Nat, x < (iI s 9).toNat → WOK (fwC s x) (iC s 2 x) := fun x hx => (hA.2 x (by omega)).1
  refine ⟨(L, WYC s, fun q x => iC s 11 (12 * q + x), fun x => iC s 12 x, (iI s 9).toNat), ⟨⟨en.symm, by show (iI s 9).toNat ≤ 12; omega⟩, wye_rf, fun _ _ _ _ => rfl, fun _ _ => rfl, fun q hq => ?_, r1⟩, ⟨⟨by show iI s 90 = (((iI s 9).toNat : Nat) : Int); omega, by show (iI s 9).toNat ≤ 12; omega⟩, fun x hx => ?_, wk, fun x c hx hc => ?_, fun q x hq hx => ?_, fun x hx => ?_, r2⟩, r3⟩
  · have w := hT q (by omega)
    refine ⟨w.1, fun x hx => ?_⟩
    replace hx : x < (iI s 9).toNat := hx
    have z := w.2 x (by omega)
    show iC s 11 (12 * q + x) = iC s 11 (12 * (iC s 14 q).toNat + x)
    rw [show 12 * q + x = ((q : Int) * 12 + (x : Int)).toNat by omega, show 12 * (iC s 14 q).toNat + x = (iC s 14 q * 12 + (x : Int)).toNat by omega]
    exact z
  · replace hx : x < (iI s 9).toNat := hx
    have w := hW.2 x (by omega)
    refine ⟨w.1.symm, fun k hk => ?_⟩
    replace hk : (k : Int) < iC s 162 x := hk
    have z := w.2 k (by rw [w.1]; exact hk)
    show iC s (166 + x) k = iC s 1 (24 * x + k)
    rw [← z, show x * 24 + k = 24 * x + k by omega]
  · replace hx : x < (iI s 9).toNat := hx
    have w := hW.2 x (by omega)
    have e : ∀ k : Nat, (k : Int) < iC s 2 x → iC s 1 (24 * x + k) = iC s (166 + x) k := fun k hk => by rw [show 24 * x + k = x * 24 + k by omega]; exact w.2 k hk
    rcases hL.2 x c (by omega) hc with ⟨b1, b2⟩ | ⟨k, b1, b2, b3⟩
    · refine Or.inl ⟨b1, fun k hk => ?_⟩
      replace hk : (k : Int) < iC s 2 x := hk
      show iC s 1 (24 * x + k) ≠ (c : Int)
      rw [e k hk]; exact b2 k (by rw [← w.1]; exact hk)
    · have b1' : (k : Int) < iC s 2 x := by rw [w.1]; exact b1
      exact Or.inr ⟨k, b1', (e k b1').trans b2, b3⟩
  · replace hx : x < (iI s 9).toNat := hx
    show MXG (CMR s (x : Int)) ((q : Int) - iC s 164 x) ((q : Int) + iC s 163 x + 1) (iC s 11 (12 * q + x))
    have w := hM.1.1 (x : Int) (q : Int) (by omega) (by omega) (by omega) (by omega)
    rw [show ((x : Int)).toNat = x by omega, hM.2.2.1 x (by omega), hM.2.2.2 x (by omega), show ((q : Int) * 12 + (x : Int)).toNat = 12 * q + x by omega] at w
    exact mx_cg w (fun k k0 k1 => hM.2.1 (x : Int) k (by omega) (by omega) k0 k1)
  · replace hx : x < (iI s 9).toNat := hx
    have w := hM.1.2 (x : Int) (by omega) (by omega)
    rw [show ((x : Int)).toNat = x by omega] at w
    show sqn (CMR s (x : Int)) 24 = iC s 12 x
    rw [w]
    exact sqn_f (fun k k0 k1 => (hM.2.1 (x : Int) k (by omega) (by omega) k0 (by omega)).symm)
section M87k7
variable {l : Launch} {s0 : State} {D : va_G} {tys : List (ClassId × FieldType)} {a0 : Array Value} {A : Nat → Nat} {dT : Nat → ClassId} {s : PS}
end M87k7
end
section
/-! The law calls the class -/
section M87k8
variable {l : Launch} {s0 : State} {D : va_G} {tys : List (ClassId × FieldType)} {a0 : Array Value} {A : Nat → Nat} {dT : Nat → ClassId} {s : PS}
set_option maxRecDepth 4000 in
theorem lw_assign6 (G : GX l s0 D tys a0 dT) (I : Bd s) (jPMJ : PMJ s) {u v : Int} (p0 : rng u) (p1 : rng v) : CTL l s0 D A dT 320 (rmN 320) [.ref (A 0), .int (Int32.ofInt u), .int (Int32.ofInt v), .ref (A 517)] s (fun o t => Bd t ∧ Fm [] [21, 1022, 1023, 1460] s t ∧ PMJ t ∧ ∃ e, o = .inl (some (.int (Int32.ofInt e))) ∧ rng e ∧ ((e = 0 ∧ 0 ≤ u ∧ u ≤ 127 ∧ -1 ≤ v ∧ v ≤ 7 ∧ iO t = iC s 21 u.toNat ∧ UPD 21 u v s t) ∨ ((e = 1 ∧ (u < 0 ∨ 127 < u) ∨ e = 2 ∧ 0 ≤ u ∧ u ≤ 127 ∧ (v < -1 ∨ 7 < v)) ∧ SAM 21 s t))) := by
  refine ctL_of G (by decide) (Nat.le_of_ble_eq_true rfl) (by decide) rfl (fun k X E ET hRt hEx q => ?_)
  show WS k 0 [(0, .ref (A 0)), (1, .int (Int32.ofInt u)), (2, .int (Int32.ofInt v)), (3, .ref (A 517))] [] _ 0 0
  have F : Fm [] [21, 1022, 1023, 1460] s s := fm_rf _ _ s
  have aw0_21 : SAM 21 s s := sam_rf
  have hA := swA_rf A
  refine z_aload_n X (x := A 517) rfl (List.Mem.tail _ (List.Mem.tail _ (List.Mem.tail _ (List.Mem.head _)))) (z_const X rfl (z_aload_n X (x := A 0) rfl (List.Mem.head _) (z_load_n X (x := u) rfl (List.Mem.tail _ (List.Mem.head _)) (z_load_n X (x := v) rfl (List.Mem.tail _ (List.Mem.tail _ (List.Mem.head _))) (z_callV X 0 (rm := rmN 143) (As := [.int (Int32.ofInt u), .int (Int32.ofInt v)]) (st := [.int (Int32.ofInt 0), .ref (A 517)]) rfl rfl (by decide) rfl (by rw [E.1, E.2.1, E.2.2.1]; exact cs_assign6 G I jPMJ (by omega) (by omega)) ⟨by rw [E.2.2.2]; exact (show (rmN 143).frames + 1 ≤ (rmN 320).frames by decide), by rw [E.2.2.2]; exact (show 8 + (mNL (miB 143) + 11) + (rmN 143).locals ≤ (rmN 320).locals by decide), by rw [E.2.2.2]; exact (show 0 + (rmN 143).cells ≤ (rmN 320).cells by decide), by rw [E.2.2.2]; exact (show 0 + (rmN 143).slots ≤ (rmN 320).slots by decide)⟩ (Nat.le_of_ble_eq_true rfl) (fun vv s1 hq => ?_) (fun ee s1 hq => ?_))))))
  rotate_left
  · obtain ⟨Is1, Fs1, JPMJ_s1, (⟨e2, hv, hrs1, hps1⟩ | ⟨xx, hv, hps1⟩)⟩ := hq
    · cases hv
    · cases hv
      rcases (show xx = 0 ∨ xx = 2 by omega) with gx | gx
      ·
        subst gx
        have Gs1 := fm_tq F Fs1 rfl rfl
        refine (hEx 5 0).2 17 rfl _ _ _ _ _ (fun q1 => ?_)
        show WS k 17 [(0, .ref (A 0)), (1, .int (Int32.ofInt u)), (2, .int (Int32.ofInt v)), (3, .ref (A 517))] [.ref q1] (Wd A dT s1) 2 12
        refine z_astore X (lv' := [(4, .ref q1), (0, .ref (A 0)), (1, .int (Int32.ofInt u)), (2, .int (Int32.ofInt v)), (3, .ref (A 517))]) rfl (by decide) (fun _ h => h) (z_const X rfl ?_)
        exact w_iret X.1 q hRt rfl (ax_d X (show cdA 320 20 = some (.ireturn, 1, 0, 0, 0) from rfl)) (show 2 ≤ 2 by decide) (show 12 ≤ 12 by decide) ⟨A, _, hA, rfl, Is1, Gs1, JPMJ_s1, 2, rfl, (by decide), Or.inr (⟨by omega, hps1.2⟩)⟩
      ·
        subst gx
        have Gs1 := fm_tq F Fs1 rfl rfl
        refine (hEx 5 2).2 13 rfl _ _ _ _ _ (fun q1 => ?_)
        show WS k 13 [(0, .ref (A 0)), (1, .int (Int32.ofInt u)), (2, .int (Int32.ofInt v)), (3, .ref (A 517))] [.ref q1] (Wd A dT s1) 2 12
        refine z_astore X (lv' := [(4, .ref q1), (0, .ref (A 0)), (1, .int (Int32.ofInt u)), (2, .int (Int32.ofInt v)), (3, .ref (A 517))]) rfl (by decide) (fun _ h => h) (z_const X rfl ?_)
        exact w_iret X.1 q hRt rfl (ax_d X (show cdA 320 16 = some (.ireturn, 1, 0, 0, 0) from rfl)) (show 2 ≤ 2 by decide) (show 12 ≤ 12 by decide) ⟨A, _, hA, rfl, Is1, Gs1, JPMJ_s1, 1, rfl, (by decide), Or.inr (⟨by omega, hps1.2⟩)⟩
  obtain ⟨Is1, Fs1, JPMJ_s1, (⟨e2, hv, hrs1, hps1⟩ | ⟨xx, hv, hps1⟩)⟩ := hq
  rotate_left
  · cases hv
  cases hv
  have Gs1 := fm_tq F Fs1 rfl rfl
  show WS k 8 [(0, .ref (A 0)), (1, .int (Int32.ofInt u)), (2, .int (Int32.ofInt v)), (3, .ref (A 517))] [.int (Int32.ofInt e2), .int (Int32.ofInt 0), .ref (A 517)] (Wd A dT s1) 2 12
  refine w_i2l X.1 (ax_d X (show cdA 320 8 = some (.i2l, 1, 0, 0, 0) from rfl)) (z_last X 517 rfl (c518_ok rfl) rfl (by first | (clear hps1; omega) | omega) (show 0 < 1 by first | (clear hps1; omega) | omega) (cbig_ok rfl) (wd_gen (fun s3 hs3 => ?_)))
  have Is3 : Bd s3 := eqB hs3 (bd_D Is1)
  have Fs3 : Fm [] [21, 1022, 1023, 1460] s s3 := by rw [hs3]; exact fm_D Gs1 (show 460 + 1000 ∈ _ by decide)
  have aws3_21 : UPD 21 u v s s3 := by rw [hs3]; exact hps1.2.2.2.2.2
  have JPMJ_s3 : PMJ s3 := PMJ_fm (L := []) (M := [1460]) (by rw [hs3]; exact fm_D (fm_rf _ _ _) (show 460 + 1000 ∈ _ by decide)) (by decide) JPMJ_s1
  have oos3 : iO s3 = e2 := by rw [hs3]; exact iO_u (by first | (clear hps1; omega) | omega)
  refine z_goto X (t := 21) rfl rfl (z_const X rfl ?_)
  exact w_iret X.1 q hRt rfl (ax_d X (show cdA 320 22 = some (.ireturn, 1, 0, 0, 0) from rfl)) (show 2 ≤ 2 by decide) (show 12 ≤ 12 by decide) ⟨A, _, hA, rfl, Is3, Fs3, JPMJ_s3, 0, rfl, (by decide), Or.inl ⟨by decide, by first | (clear hps1; omega) | omega, by first | (clear hps1; omega) | omega, by first | (clear hps1; omega) | omega, by first | (clear hps1; omega) | omega, by first | (clear hps1; omega) | omega, aws3_21⟩⟩
set_option maxRecDepth 4000 in
theorem lw_paint6 (G : GX l s0 D tys a0 dT) (I : Bd s) (jPMJ : PMJ s) {u v w : Int} (p0 : rng u) (p1 : rng v) (p2 : rng w) : CTL l s0 D A dT 321 (rmN 321) [.ref (A 0), .int (Int32.ofInt u), .int (Int32.ofInt v), .int (Int32.ofInt w), .ref (A 517)] s (fun o t => Bd t ∧ Fm [] [21, 1022, 1023, 1460] s t ∧ PMJ t ∧ ∃ e, o = .inl (some (.int (Int32.ofInt e))) ∧ rng e ∧ ((e = 0 ∧ (0 ≤ u ∧ u ≤ 127 ∧ 0 ≤ v ∧ v ≤ 127) ∧ (-1 ≤ w ∧ w ≤ 7) ∧ u / 64 = v / 64 ∧ u % 8 ≤ v % 8 ∧ u / 8 % 8 ≤ v / 8 % 8 ∧ PNQ (bxC u v) (pfC s) (pfC t) w 128 (iO t)) ∨ ((e = 1 ∧ (u < 0 ∨ 127 < u ∨ v < 0 ∨ 127 < v) ∨ e = 2 ∧ (0 ≤ u ∧ u ≤ 127 ∧ 0 ≤ v ∧ v ≤ 127) ∧ (w < -1 ∨ 7 < w ∨ u / 64 ≠ v / 64 ∨ v % 8 < u % 8 ∨ v / 8 % 8 < u / 8 % 8)) ∧ SAM 21 s t))) := by
  refine ctL_of G (by decide) (Nat.le_of_ble_eq_true rfl) (by decide) rfl (fun k X E ET hRt hEx q => ?_)
  show WS k 0 [(0, .ref (A 0)), (1, .int (Int32.ofInt u)), (2, .int (Int32.ofInt v)), (3, .int (Int32.ofInt w)), (4, .ref (A 517))] [] _ 0 0
  have F : Fm [] [21, 1022, 1023, 1460] s s := fm_rf _ _ s
  have hA := swA_rf A
  refine z_aload X (x := A 517) rfl (List.Mem.tail _ (List.Mem.tail _ (List.Mem.tail _ (List.Mem.tail _ (List.Mem.head _))))) (z_const X rfl (z_aload_n X (x := A 0) rfl (List.Mem.head _) (z_load_n X (x := u) rfl (List.Mem.tail _ (List.Mem.head _)) (z_load_n X (x := v) rfl (List.Mem.tail _ (List.Mem.tail _ (List.Mem.head _))) (z_load_n X (x := w) rfl (List.Mem.tail _ (List.Mem.tail _ (List.Mem.tail _ (List.Mem.head _)))) (z_callV X 0 (rm := rmN 144) (As := [.int (Int32.ofInt u), .int (Int32.ofInt v), .int (Int32.ofInt w)]) (st := [.int (Int32.ofInt 0), .ref (A 517)]) rfl rfl (by decide) rfl (by rw [E.1, E.2.1, E.2.2.1]; exact cs_paint6 G I jPMJ (by omega) (by omega) (by omega)) ⟨by rw [E.2.2.2]; exact (show (rmN 144).frames + 1 ≤ (rmN 321).frames by decide), by rw [E.2.2.2]; exact (show 8 + (mNL (miB 144) + 11) + (rmN 144).locals ≤ (rmN 321).locals by decide), by rw [E.2.2.2]; exact (show 0 + (rmN 144).cells ≤ (rmN 321).cells by decide), by rw [E.2.2.2]; exact (show 0 + (rmN 144).slots ≤ (rmN 321).slots by decide)⟩ (Nat.le_of_ble_eq_true rfl) (fun vv s1 hq => ?_) (fun ee s1 hq => ?_)))))))
  rotate_left
  · obtain ⟨Is1, Fs1, JPMJ_s1, (⟨e2, hv, hrs1, hps1⟩ | ⟨xx, hv, hps1⟩)⟩ := hq
    · cases hv
    · cases hv
      rcases (show xx = 0 ∨ xx = 2 by omega) with gx | gx
      ·
        subst gx
        have Gs1 := fm_tq F Fs1 rfl rfl
        refine (hEx 7 0).2 19 rfl _ _ _ _ _ (fun q1 => ?_)
        show WS k 19 [(0, .ref (A 0)), (1, .int (Int32.ofInt u)), (2, .int (Int32.ofInt v)), (3, .int (Int32.ofInt w)), (4, .ref (A 517))] [.ref q1] (Wd A dT s1) 4 24
        refine z_astore X (lv' := [(5, .ref q1), (0, .ref (A 0)), (1, .int (Int32.ofInt u)), (2, .int (Int32.ofInt v)), (3, .int (Int32.ofInt w)), (4, .ref (A 517))]) rfl (by decide) (fun _ h => h) (z_const X rfl ?_)
        exact w_iret X.1 q hRt rfl (ax_d X (show cdA 321 22 = some (.ireturn, 1, 0, 0, 0) from rfl)) (show 4 ≤ 4 by decide) (show 24 ≤ 24 by decide) ⟨A, _, hA, rfl, Is1, Gs1, JPMJ_s1, 2, rfl, (by decide), Or.inr ⟨by omega, hps1.2⟩⟩
      ·
        subst gx
        have Gs1 := fm_tq F Fs1 rfl rfl
        refine (hEx 7 2).2 15 rfl _ _ _ _ _ (fun q1 => ?_)
        show WS k 15 [(0, .ref (A 0)), (1, .int (Int32.ofInt u)), (2, .int (Int32.ofInt v)), (3, .int (Int32.ofInt w)), (4, .ref (A 517))] [.ref q1] (Wd A dT s1) 4 24
        refine z_astore X (lv' := [(5, .ref q1), (0, .ref (A 0)), (1, .int (Int32.ofInt u)), (2, .int (Int32.ofInt v)), (3, .int (Int32.ofInt w)), (4, .ref (A 517))]) rfl (by decide) (fun _ h => h) (z_const X rfl ?_)
        exact w_iret X.1 q hRt rfl (ax_d X (show cdA 321 18 = some (.ireturn, 1, 0, 0, 0) from rfl)) (show 4 ≤ 4 by decide) (show 24 ≤ 24 by decide) ⟨A, _, hA, rfl, Is1, Gs1, JPMJ_s1, 1, rfl, (by decide), Or.inr ⟨by omega, hps1.2⟩⟩
  obtain ⟨Is1, Fs1, JPMJ_s1, (⟨e2, hv, hrs1, hps1⟩ | ⟨xx, hv, hps1⟩)⟩ := hq
  rotate_left
  · cases hv
  cases hv
  have Gs1 := fm_tq F Fs1 rfl rfl
  show WS k 10 [(0, .ref (A 0)), (1, .int (Int32.ofInt u)), (2, .int (Int32.ofInt v)), (3, .int (Int32.ofInt w)), (4, .ref (A 517))] [.int (Int32.ofInt e2), .int (Int32.ofInt 0), .ref (A 517)] (Wd A dT s1) 4 24
  refine w_i2l X.1 (ax_d X (show cdA 321 10 = some (.i2l, 1, 0, 0, 0) from rfl)) (z_last X 517 rfl (c518_ok rfl) rfl (by first | (clear hps1; omega) | omega) (show 0 < 1 by first | (clear hps1; omega) | omega) (cbig_ok rfl) (wd_gen (fun s3 hs3 => ?_)))
  have Is3 : Bd s3 := eqB hs3 (bd_D Is1)
  have Fs3 : Fm [] [21, 1022, 1023, 1460] s s3 := by rw [hs3]; exact fm_D Gs1 (show 460 + 1000 ∈ _ by decide)
  have JPMJ_s3 : PMJ s3 := PMJ_fm (L := []) (M := [1460]) (by rw [hs3]; exact fm_D (fm_rf _ _ _) (show 460 + 1000 ∈ _ by decide)) (by decide) JPMJ_s1
  have oos3 : iO s3 = e2 := by rw [hs3]; exact iO_u (by first | (clear hps1; omega) | omega)
  refine z_goto X (t := 23) rfl rfl (z_const X rfl ?_)
  exact w_iret X.1 q hRt rfl (ax_d X (show cdA 321 24 = some (.ireturn, 1, 0, 0, 0) from rfl)) (show 4 ≤ 4 by decide) (show 24 ≤ 24 by decide) ⟨A, _, hA, rfl, Is3, Fs3, JPMJ_s3, 0, rfl, (by decide), Or.inl ⟨by decide, by first | (clear hps1; omega) | omega, by first | (clear hps1; omega) | omega, by first | (clear hps1; omega) | omega, by first | (clear hps1; omega) | omega, by first | (clear hps1; omega) | omega, by rw [show iO s3 = e2 by first | (clear hps1; omega) | omega]; exact pnq_s hps1.2.2.2.2.2 rfl (show pfC s1 = pfC s3 from by rw [hs3]; rfl)⟩⟩
set_option maxRecDepth 4000 in
theorem lw_grow6 (G : GX l s0 D tys a0 dT) {U : AirD} (I : Bd s) (jAIR : AIR s) (jCPL : CPL s) (jCDJ : CDJ U s) (jPMJ : PMJ s) (jCCJ : CCJ U s) {u : Int} (p0 : rng u) : CTL l s0 D A dT 331 (rmN 331) [.ref (A 0), .int (Int32.ofInt u), .ref (A 517)] s (fun o t => Bd t ∧ Fm [22, 23, 24, 25, 26, 27] [33, 26, 27, 28, 29, 30, 31, 32, 20, 36, 37, 21, 35, 38, 1022, 1023, 1460] s t ∧ PMJ t ∧ ∃ e, o = .inl (some (.int (Int32.ofInt e))) ∧ rng e ∧ ((e = 0 ∧ 0 ≤ u ∧ u ≤ 20 ∧ GRE U (fun j => iC s 24 j) (pfC s) u (iO t) (pfC t)) ∨ (e = 1 ∧ (u < 0 ∨ 20 < u) ∧ SAM 21 s t))) := by
  refine ctL_of G (by decide) (Nat.le_of_ble_eq_true rfl) (by decide) rfl (fun k X E ET hRt hEx q => ?_)
  show WS k 0 [(0, .ref (A 0)), (1, .int (Int32.ofInt u)), (2, .ref (A 517))] [] _ 0 0
  have F : Fm [22, 23, 24, 25, 26, 27] [33, 26, 27, 28, 29, 30, 31, 32, 20, 36, 37, 21, 35, 38, 1022, 1023, 1460] s s := fm_rf _ _ s
  have hA := swA_rf A
  refine z_aload_n X (x := A 517) rfl (List.Mem.tail _ (List.Mem.tail _ (List.Mem.head _))) (z_const X rfl (z_aload_n X (x := A 0) rfl (List.Mem.head _) (z_load_n X (x := u) rfl (List.Mem.tail _ (List.Mem.head _)) (z_callV X 0 (rm := rmN 156) (As := [.int (Int32.ofInt u)]) (st := [.int (Int32.ofInt 0), .ref (A 517)]) rfl rfl (by decide) rfl (by rw [E.1, E.2.1, E.2.2.1]; exact cs_grow3 G I jAIR jCPL jCDJ jPMJ jCCJ (by omega)) ⟨by rw [E.2.2.2]; exact (show (rmN 156).frames + 1 ≤ (rmN 331).frames by decide), by rw [E.2.2.2]; exact (show 8 + (mNL (miB 156) + 11) + (rmN 156).locals ≤ (rmN 331).locals by decide), by rw [E.2.2.2]; exact (show 0 + (rmN 156).cells ≤ (rmN 331).cells by decide), by rw [E.2.2.2]; exact (show 0 + (rmN 156).slots ≤ (rmN 331).slots by decide)⟩ (Nat.le_of_ble_eq_true rfl) (fun vv s1 hq => ?_) (fun ee s1 hq => ?_)))))
  rotate_left
  · obtain ⟨Is1, Fs1, JPMJ_s1, (⟨e2, hv, hrs1, hps1⟩ | ⟨xx, hv, hps1⟩)⟩ := hq
    · cases hv
    · cases hv
      rcases (show xx = 0 by omega) with gx
      ·
        subst gx
        have Gs1 := fm_tq F Fs1 rfl rfl
        refine (hEx 4 0).2 12 rfl _ _ _ _ _ (fun q1 => ?_)
        show WS k 12 [(0, .ref (A 0)), (1, .int (Int32.ofInt u)), (2, .ref (A 517))] [.ref q1] (Wd A dT s1) 1 6
        refine z_astore_n X (lv' := [(3, .ref q1), (0, .ref (A 0)), (1, .int (Int32.ofInt u)), (2, .ref (A 517))]) rfl (by decide) (fun _ h => h) (z_const X rfl ?_)
        exact w_iret X.1 q hRt rfl (ax_d X (show cdA 331 14 = some (.ireturn, 1, 0, 0, 0) from rfl)) (show 1 ≤ 1 by decide) (show 6 ≤ 6 by decide) ⟨A, _, hA, rfl, Is1, Gs1, JPMJ_s1, 1, rfl, (by decide), Or.inr ⟨by decide, by omega, hps1.2.2⟩⟩
  obtain ⟨Is1, Fs1, JPMJ_s1, (⟨e2, hv, hrs1, hps1⟩ | ⟨xx, hv, hps1⟩)⟩ := hq
  rotate_left
  · cases hv
  cases hv
  have Gs1 := fm_tq F Fs1 rfl rfl
  show WS k 7 [(0, .ref (A 0)), (1, .int (Int32.ofInt u)), (2, .ref (A 517))] [.int (Int32.ofInt e2), .int (Int32.ofInt 0), .ref (A 517)] (Wd A dT s1) 1 6
  refine w_i2l X.1 (ax_d X (show cdA 331 7 = some (.i2l, 1, 0, 0, 0) from rfl)) (z_last X 517 rfl (c518_ok rfl) rfl (by first | (clear hps1; omega) | omega) (show 0 < 1 by first | (clear hps1; omega) | omega) (cbig_ok rfl) (wd_gen (fun s3 hs3 => ?_)))
  have Is3 : Bd s3 := eqB hs3 (bd_D Is1)
  have Fs3 : Fm [22, 23, 24, 25, 26, 27] [33, 26, 27, 28, 29, 30, 31, 32, 20, 36, 37, 21, 35, 38, 1022, 1023, 1460] s s3 := by rw [hs3]; exact fm_D Gs1 (show 460 + 1000 ∈ _ by decide)
  have JPMJ_s3 : PMJ s3 := PMJ_fm (L := []) (M := [1460]) (by rw [hs3]; exact fm_D (fm_rf _ _ _) (show 460 + 1000 ∈ _ by decide)) (by decide) JPMJ_s1
  have oos3 : iO s3 = e2 := by rw [hs3]; exact iO_u (by first | (clear hps1; omega) | omega)
  refine z_goto X (t := 15) rfl rfl (z_const X rfl ?_)
  exact w_iret X.1 q hRt rfl (ax_d X (show cdA 331 16 = some (.ireturn, 1, 0, 0, 0) from rfl)) (show 1 ≤ 1 by decide) (show 6 ≤ 6 by decide) ⟨A, _, hA, rfl, Is3, Fs3, JPMJ_s3, 0, rfl, (by decide), Or.inl ⟨by decide, by first | (clear hps1; omega) | omega, by first | (clear hps1; omega) | omega, by rw [show iO s3 = e2 by first | (clear hps1; omega) | omega]; exact gre_s hps1.2 (show pfC s1 = pfC s3 from by rw [hs3]; rfl)⟩⟩
set_option maxRecDepth 4000 in
theorem lw_flow5 (G : GX l s0 D tys a0 dT) (I : Bd s) (jMOI : MOI s) (jTWJ : TWJ s) {u v p w : Int} (p0 : rng u) (p1 : rng v) (p2 : rng p) (p3 : rng w) : CTL l s0 D A dT 317 (rmN 317) [.ref (A 0), .int (Int32.ofInt u), .int (Int32.ofInt v), .int (Int32.ofInt p), .int (Int32.ofInt w)] s (fun o t => Bd t ∧ Fm [] [8, 11, 12, 13, 14] s t ∧ TWJ t ∧ ∃ e, o = .inl (some (.int (Int32.ofInt e))) ∧ rng e ∧ ((e = 0 ∧ 0 ≤ u ∧ u < iI s 9 ∧ 0 ≤ v ∧ v ≤ 23 ∧ 0 ≤ p ∧ p ≤ 23 ∧ v ≤ p ∧ 0 ≤ w ∧ w ≤ 50 ∧ MOI t ∧ FLU (CNR s) (CNR t) u v (p + 1) w ∧ SAM 10 s t ∧ SAM 9 s t) ∨ (e = 1 ∧ (u < 0 ∨ iI s 9 ≤ u) ∧ SA4 s t) ∨ (e = 2 ∧ 0 ≤ u ∧ u < iI s 9 ∧ (v < 0 ∨ 23 < v ∨ p < 0 ∨ 23 < p ∨ p < v ∨ w < 0 ∨ 50 < w) ∧ SA4 s t))) := by
  refine ctL_of G (by decide) (Nat.le_of_ble_eq_true rfl) (by decide) rfl (fun k X E ET hRt hEx q => ?_)
  show WS k 0 [(0, .ref (A 0)), (1, .int (Int32.ofInt u)), (2, .int (Int32.ofInt v)), (3, .int (Int32.ofInt p)), (4, .int (Int32.ofInt w))] [] _ 0 0
  have F : Fm [] [8, 11, 12, 13, 14] s s := fm_rf _ _ s
  have hA := swA_rf A
  have b1 := bi_9 I
  refine z_aload_n X (x := A 0) rfl (List.Mem.head _) (z_load_n X (x := u) rfl (List.Mem.tail _ (List.Mem.head _)) (z_load_n X (x := v) rfl (List.Mem.tail _ (List.Mem.tail _ (List.Mem.head _))) (z_load_n X (x := p) rfl (List.Mem.tail _ (List.Mem.tail _ (List.Mem.tail _ (List.Mem.head _)))) (z_load X (x := w) rfl (List.Mem.tail _ (List.Mem.tail _ (List.Mem.tail _ (List.Mem.tail _ (List.Mem.head _))))) (z_callV X 0 (rm := rmN 140) (As := [.int (Int32.ofInt u), .int (Int32.ofInt v), .int (Int32.ofInt p), .int (Int32.ofInt w)]) (st := []) rfl rfl (by decide) rfl (by rw [E.1, E.2.1, E.2.2.1]; exact cs_flow5 G I jMOI jTWJ (by omega) (by omega) (by omega) (by omega)) ⟨by rw [E.2.2.2]; exact (show (rmN 140).frames + 1 ≤ (rmN 317).frames by decide), by rw [E.2.2.2]; exact (show 8 + (mNL (miB 140) + 11) + (rmN 140).locals ≤ (rmN 317).locals by decide), by rw [E.2.2.2]; exact (show 0 + (rmN 140).cells ≤ (rmN 317).cells by decide), by rw [E.2.2.2]; exact (show 0 + (rmN 140).slots ≤ (rmN 317).slots by decide)⟩ (Nat.le_of_ble_eq_true rfl) (fun vv s2 hq => ?_) (fun ee s2 hq => ?_))))))
  rotate_left
  · obtain ⟨Is2, Fs2, JTWJ_s2, (⟨hv, hps2⟩ | ⟨xx, hv, hps2⟩)⟩ := hq
    · cases hv
    · cases hv
      rcases (show xx = 0 ∨ xx = 1 by omega) with gx | gx
      ·
        subst gx
        have Gs2 := fm_tq F Fs2 rfl rfl
        have ws2_9 : iI s2 9 = iI s 9 := fm_iq Fs2 rfl
        refine (hEx 6 0).2 16 rfl _ _ _ _ _ (fun q1 => ?_)
        show WS k 16 [(0, .ref (A 0)), (1, .int (Int32.ofInt u)), (2, .int (Int32.ofInt v)), (3, .int (Int32.ofInt p)), (4, .int (Int32.ofInt w))] [.ref q1] (Wd A dT s2) 5 30
        refine z_astore X (lv' := [(5, .ref q1), (0, .ref (A 0)), (1, .int (Int32.ofInt u)), (2, .int (Int32.ofInt v)), (3, .int (Int32.ofInt p)), (4, .int (Int32.ofInt w))]) rfl (by decide) (fun _ h => h) (z_const X rfl ?_)
        exact w_iret X.1 q hRt rfl (ax_d X (show cdA 317 19 = some (.ireturn, 1, 0, 0, 0) from rfl)) (show 5 ≤ 5 by decide) (show 30 ≤ 30 by decide) ⟨A, _, hA, rfl, Is2, Gs2, JTWJ_s2, 2, rfl, (by decide), Or.inr (Or.inr ⟨by decide, by omega, by omega, by omega, hps2.2⟩)⟩
      ·
        subst gx
        have Gs2 := fm_tq F Fs2 rfl rfl
        have ws2_9 : iI s2 9 = iI s 9 := fm_iq Fs2 rfl
        refine (hEx 6 1).2 12 rfl _ _ _ _ _ (fun q1 => ?_)
        show WS k 12 [(0, .ref (A 0)), (1, .int (Int32.ofInt u)), (2, .int (Int32.ofInt v)), (3, .int (Int32.ofInt p)), (4, .int (Int32.ofInt w))] [.ref q1] (Wd A dT s2) 5 30
        refine z_astore X (lv' := [(5, .ref q1), (0, .ref (A 0)), (1, .int (Int32.ofInt u)), (2, .int (Int32.ofInt v)), (3, .int (Int32.ofInt p)), (4, .int (Int32.ofInt w))]) rfl (by decide) (fun _ h => h) (z_const X rfl ?_)
        exact w_iret X.1 q hRt rfl (ax_d X (show cdA 317 15 = some (.ireturn, 1, 0, 0, 0) from rfl)) (show 5 ≤ 5 by decide) (show 30 ≤ 30 by decide) ⟨A, _, hA, rfl, Is2, Gs2, JTWJ_s2, 1, rfl, (by decide), Or.inr (Or.inl ⟨by decide, by omega, hps2.2⟩)⟩
  obtain ⟨Is2, Fs2, JTWJ_s2, (⟨hv, hps2⟩ | ⟨xx, hv, hps2⟩)⟩ := hq
  rotate_left
  · cases hv
  cases hv
  have Gs2 := fm_tq F Fs2 rfl rfl
  have ws2_9 : iI s2 9 = iI s 9 := fm_iq Fs2 rfl
  show WS k 9 [(0, .ref (A 0)), (1, .int (Int32.ofInt u)), (2, .int (Int32.ofInt v)), (3, .int (Int32.ofInt p)), (4, .int (Int32.ofInt w))] [] (Wd A dT s2) 5 30
  refine z_goto X (t := 20) rfl rfl (z_const X rfl ?_)
  exact w_iret X.1 q hRt rfl (ax_d X (show cdA 317 21 = some (.ireturn, 1, 0, 0, 0) from rfl)) (show 5 ≤ 5 by decide) (show 30 ≤ 30 by decide) ⟨A, _, hA, rfl, Is2, Gs2, JTWJ_s2, 0, rfl, (by decide), Or.inl ⟨by decide, hps2⟩⟩
set_option maxRecDepth 4000 in
theorem lw_span5 (G : GX l s0 D tys a0 dT) (I : Bd s) (jMOI : MOI s) (jTWJ : TWJ s) {u y z : Int} (p0 : rng u) (p1 : rng y) (p2 : rng z) : CTL l s0 D A dT 318 (rmN 318) [.ref (A 0), .int (Int32.ofInt u), .int (Int32.ofInt y), .int (Int32.ofInt z)] s (fun o t => Bd t ∧ Fm [] [9, 10, 11, 12, 13, 14] s t ∧ TWJ t ∧ ∃ e, o = .inl (some (.int (Int32.ofInt e))) ∧ rng e ∧ ((e = 0 ∧ 0 ≤ u ∧ u < iI s 9 ∧ 0 ≤ y ∧ y ≤ 2 ∧ 0 ≤ z ∧ z ≤ 2 ∧ MOI t ∧ UPD 9 u y s t ∧ UPD 10 u z s t ∧ SAM 8 s t) ∨ (e = 1 ∧ (u < 0 ∨ iI s 9 ≤ u) ∧ SA4 s t) ∨ (e = 2 ∧ 0 ≤ u ∧ u < iI s 9 ∧ (y < 0 ∨ 2 < y ∨ z < 0 ∨ 2 < z) ∧ SA4 s t))) := by
  refine ctL_of G (by decide) (Nat.le_of_ble_eq_true rfl) (by decide) rfl (fun k X E ET hRt hEx q => ?_)
  show WS k 0 [(0, .ref (A 0)), (1, .int (Int32.ofInt u)), (2, .int (Int32.ofInt y)), (3, .int (Int32.ofInt z))] [] _ 0 0
  have F : Fm [] [9, 10, 11, 12, 13, 14] s s := fm_rf _ _ s
  have hA := swA_rf A
  have b1 := bi_9 I
  refine z_aload_n X (x := A 0) rfl (List.Mem.head _) (z_load_n X (x := u) rfl (List.Mem.tail _ (List.Mem.head _)) (z_load_n X (x := y) rfl (List.Mem.tail _ (List.Mem.tail _ (List.Mem.head _))) (z_load_n X (x := z) rfl (List.Mem.tail _ (List.Mem.tail _ (List.Mem.tail _ (List.Mem.head _)))) (z_callV X 0 (rm := rmN 141) (As := [.int (Int32.ofInt u), .int (Int32.ofInt y), .int (Int32.ofInt z)]) (st := []) rfl rfl (by decide) rfl (by rw [E.1, E.2.1, E.2.2.1]; exact cs_span5 G I jMOI jTWJ (by omega) (by omega) (by omega)) ⟨by rw [E.2.2.2]; exact (show (rmN 141).frames + 1 ≤ (rmN 318).frames by decide), by rw [E.2.2.2]; exact (show 8 + (mNL (miB 141) + 11) + (rmN 141).locals ≤ (rmN 318).locals by decide), by rw [E.2.2.2]; exact (show 0 + (rmN 141).cells ≤ (rmN 318).cells by decide), by rw [E.2.2.2]; exact (show 0 + (rmN 141).slots ≤ (rmN 318).slots by decide)⟩ (Nat.le_of_ble_eq_true rfl) (fun vv s2 hq => ?_) (fun ee s2 hq => ?_)))))
  rotate_left
  · obtain ⟨Is2, Fs2, JTWJ_s2, (⟨hv, hps2⟩ | ⟨xx, hv, hps2⟩)⟩ := hq
    · cases hv
    · cases hv
      rcases (show xx = 0 ∨ xx = 1 by omega) with gx | gx
      ·
        subst gx
        have Gs2 := fm_tq F Fs2 rfl rfl
        have ws2_9 : iI s2 9 = iI s 9 := fm_iq Fs2 rfl
        refine (hEx 4 0).2 14 rfl _ _ _ _ _ (fun q1 => ?_)
        show WS k 14 [(0, .ref (A 0)), (1, .int (Int32.ofInt u)), (2, .int (Int32.ofInt y)), (3, .int (Int32.ofInt z))] [.ref q1] (Wd A dT s2) 3 18
        refine z_astore X (lv' := [(4, .ref q1), (0, .ref (A 0)), (1, .int (Int32.ofInt u)), (2, .int (Int32.ofInt y)), (3, .int (Int32.ofInt z))]) rfl (by decide) (fun _ h => h) (z_const X rfl ?_)
        exact w_iret X.1 q hRt rfl (ax_d X (show cdA 318 17 = some (.ireturn, 1, 0, 0, 0) from rfl)) (show 3 ≤ 3 by decide) (show 18 ≤ 18 by decide) ⟨A, _, hA, rfl, Is2, Gs2, JTWJ_s2, 2, rfl, (by decide), Or.inr (Or.inr ⟨by decide, by omega, by omega, by omega, hps2.2⟩)⟩
      ·
        subst gx
        have Gs2 := fm_tq F Fs2 rfl rfl
        have ws2_9 : iI s2 9 = iI s 9 := fm_iq Fs2 rfl
        refine (hEx 4 1).2 10 rfl _ _ _ _ _ (fun q1 => ?_)
        show WS k 10 [(0, .ref (A 0)), (1, .int (Int32.ofInt u)), (2, .int (Int32.ofInt y)), (3, .int (Int32.ofInt z))] [.ref q1] (Wd A dT s2) 3 18
        refine z_astore X (lv' := [(4, .ref q1), (0, .ref (A 0)), (1, .int (Int32.ofInt u)), (2, .int (Int32.ofInt y)), (3, .int (Int32.ofInt z))]) rfl (by decide) (fun _ h => h) (z_const X rfl ?_)
        exact w_iret X.1 q hRt rfl (ax_d X (show cdA 318 13 = some (.ireturn, 1, 0, 0, 0) from rfl)) (show 3 ≤ 3 by decide) (show 18 ≤ 18 by decide) ⟨A, _, hA, rfl, Is2, Gs2, JTWJ_s2, 1, rfl, (by decide), Or.inr (Or.inl ⟨by decide, by omega, hps2.2⟩)⟩
  obtain ⟨Is2, Fs2, JTWJ_s2, (⟨hv, hps2⟩ | ⟨xx, hv, hps2⟩)⟩ := hq
  rotate_left
  · cases hv
  cases hv
  have Gs2 := fm_tq F Fs2 rfl rfl
  have ws2_9 : iI s2 9 = iI s 9 := fm_iq Fs2 rfl
  show WS k 7 [(0, .ref (A 0)), (1, .int (Int32.ofInt u)), (2, .int (Int32.ofInt y)), (3, .int (Int32.ofInt z))] [] (Wd A dT s2) 3 18
  refine z_goto X (t := 18) rfl rfl (z_const X rfl ?_)
  exact w_iret X.1 q hRt rfl (ax_d X (show cdA 318 19 = some (.ireturn, 1, 0, 0, 0) from rfl)) (show 3 ≤ 3 by decide) (show 18 ≤ 18 by decide) ⟨A, _, hA, rfl, Is2, Gs2, JTWJ_s2, 0, rfl, (by decide), Or.inl ⟨by decide, hps2⟩⟩
set_option maxRecDepth 4000 in
theorem lw_rules4 (G : GX l s0 D tys a0 dT) {B : Nat → Int} (SF : SF0 s0) (GT : TXw0 s0) (I : Bd s) (jBYA : BYA B s) {w : Int} (p0 : rng w) (p1 : 0 ≤ iI s 12 ∧ iI s 12 ≤ 8) : CTL l s0 D A dT 315 (rmN 315) [.ref (A 0), .int (Int32.ofInt w), .ref (A 517)] s (fun o t => Bd t ∧ Fm [2, 4, 6, 5, 7, 8, 19, 16, 17, 18, 12, 13, 14, 15, 1, 3, 0] [16, 17, 18, 19, 1460] s t ∧ ∃ e, o = .inl (some (.int (Int32.ofInt e))) ∧ rng e ∧ (((e = 0 ∧ iI t 0 = 0 ∧ 0 ≤ w ∧ w ≤ iI s 0 ∧ ((0 ≤ iO t ∧ RLC B w (iO t) t) ∨ (iO t < 0 ∧ RUA B w (iO t) ∧ iI t 13 = iI s 13 ∧ iI t 15 = iI s 15 ∧ SAM 16 s t ∧ SAM 17 s t))) ∨ (e = 1 ∧ iI t 0 = iI s 0 ∧ (w < 0 ∨ iI s 0 < w) ∧ iI t 13 = iI s 13 ∧ iI t 15 = iI s 15 ∧ SAM 16 s t ∧ SAM 17 s t)) ∧ iI t 12 ≤ 8)) := by
  refine ctL_of G (by decide) (Nat.le_of_ble_eq_true rfl) (by decide) rfl (fun k X E ET hRt hEx q => ?_)
  show WS k 0 [(0, .ref (A 0)), (1, .int (Int32.ofInt w)), (2, .ref (A 517))] [] _ 0 0
  have F : Fm [2, 4, 6, 5, 7, 8, 19, 16, 17, 18, 12, 13, 14, 15, 1, 3, 0] [16, 17, 18, 19, 1460] s s := fm_rf _ _ s
  have hA := swA_rf A
  have b1 := bi_0 I
  have b2 := bi_12 I
  have b3 := bi_13 I
  have b4 := bi_15 I
  refine z_aload_n X (x := A 517) rfl (List.Mem.tail _ (List.Mem.tail _ (List.Mem.head _))) (z_const X rfl (z_aload_n X (x := A 0) rfl (List.Mem.head _) (z_load_n X (x := w) rfl (List.Mem.tail _ (List.Mem.head _)) (z_callVX X 0 (rm := rmN 137) (As := [.int (Int32.ofInt w)]) (st := [.int (Int32.ofInt 0), .ref (A 517)]) rfl rfl (by decide) rfl (by rw [E.1, E.2.1, E.2.2.1]; exact cs_rules4 G SF GT I jBYA (by omega) (by omega)) ⟨by rw [E.2.2.2]; exact (show (rmN 137).frames + 1 ≤ (rmN 315).frames by decide), by rw [E.2.2.2]; exact (show 8 + (mNL (miB 137) + 11) + (rmN 137).locals ≤ (rmN 315).locals by decide), by rw [E.2.2.2]; exact (show 0 + (rmN 137).cells ≤ (rmN 315).cells by decide), by rw [E.2.2.2]; exact (show 0 + (rmN 137).slots ≤ (rmN 315).slots by decide)⟩ (Nat.le_of_ble_eq_true rfl) (fun vv A s5 hA2 hq => ?_) (fun ee A s5 hA2 hq => ?_)))))
  rotate_left
  · obtain ⟨Is5, Fs5, (⟨e6, hv, hrs5, hps5⟩ | ⟨xx, hv, hps5⟩)⟩ := hq
    · cases hv
    · cases hv
      rcases (show xx = 0 by omega) with gx
      ·
        subst gx
        replace hA := swA_ts hA hA2
        rw [← hA2 0 (by decide)]
        rw [← hA2 517 (by decide)]
        have Gs5 := fm_tq F Fs5 rfl rfl
        have b7 := bi_0 Is5
        have b8 := bi_12 Is5
        have b9 := bi_13 Is5
        have b10 := bi_15 Is5
        refine (hEx 4 0).2 12 rfl _ _ _ _ _ (fun q1 => ?_)
        show WS k 12 [(0, .ref (A 0)), (1, .int (Int32.ofInt w)), (2, .ref (A 517))] [.ref q1] (Wd A dT s5) 1 6
        refine z_astore_n X (lv' := [(3, .ref q1), (0, .ref (A 0)), (1, .int (Int32.ofInt w)), (2, .ref (A 517))]) rfl (by decide) (fun _ h => h) (z_const X rfl ?_)
        exact w_iret X.1 q hRt rfl (ax_d X (show cdA 315 14 = some (.ireturn, 1, 0, 0, 0) from rfl)) (show 1 ≤ 1 by decide) (show 6 ≤ 6 by decide) ⟨A, _, hA, rfl, Is5, Gs5, 1, rfl, (by decide), ⟨Or.inr ⟨by decide, by omega, by omega, by omega, by omega, hps5.2.2.2.2.2.2.2.1, hps5.2.2.2.2.2.2.2.2⟩, by omega⟩⟩
  obtain ⟨Is5, Fs5, (⟨e6, hv, hrs5, hps5⟩ | ⟨xx, hv, hps5⟩)⟩ := hq
  rotate_left
  · cases hv
  cases hv
  replace hA := swA_ts hA hA2
  rw [← hA2 0 (by decide)]
  rw [← hA2 517 (by decide)]
  have Gs5 := fm_tq F Fs5 rfl rfl
  have b11 := bi_0 Is5
  have b12 := bi_12 Is5
  have b13 := bi_13 Is5
  have b14 := bi_15 Is5
  show WS k 7 [(0, .ref (A 0)), (1, .int (Int32.ofInt w)), (2, .ref (A 517))] [.int (Int32.ofInt e6), .int (Int32.ofInt 0), .ref (A 517)] (Wd A dT s5) 1 6
  refine w_i2l X.1 (ax_d X (show cdA 315 7 = some (.i2l, 1, 0, 0, 0) from rfl)) (z_last X 517 rfl (c518_ok rfl) rfl (by first | (clear hps5; omega) | omega) (show 0 < 1 by first | (clear hps5; omega) | omega) (cbig_ok rfl) (wd_gen (fun s15 hs15 => ?_)))
  have Is15 : Bd s15 := eqB hs15 (bd_D Is5)
  have Fs15 : Fm [2, 4, 6, 5, 7, 8, 19, 16, 17, 18, 12, 13, 14, 15, 1, 3, 0] [16, 17, 18, 19, 1460] s s15 := by rw [hs15]; exact fm_D Gs5 (show 460 + 1000 ∈ _ by decide)
  have ws15_0 : iI s15 0 = iI s5 0 := eqI hs15 rfl
  have ws15_12 : iI s15 12 = iI s5 12 := eqI hs15 rfl
  have ws15_13 : iI s15 13 = iI s5 13 := eqI hs15 rfl
  have ws15_15 : iI s15 15 = iI s5 15 := eqI hs15 rfl
  have oos15 : iO s15 = e6 := by rw [hs15]; exact iO_u (by first | (clear hps5; omega) | omega)
  refine z_goto X (t := 15) rfl rfl (z_const X rfl ?_)
  exact w_iret X.1 q hRt rfl (ax_d X (show cdA 315 16 = some (.ireturn, 1, 0, 0, 0) from rfl)) (show 1 ≤ 1 by decide) (show 6 ≤ 6 by decide) ⟨A, _, hA, rfl, Is15, Fs15, 0, rfl, (by decide), ⟨Or.inl ⟨by decide, by first | (clear hps5; omega) | omega, by first | (clear hps5; omega) | omega, by first | (clear hps5; omega) | omega, hps5.2.2.2.2.2.elim (fun q => Or.inl ⟨by first | (clear hps5; omega) | omega, by rw [show iO s15 = e6 by first | (clear hps5; omega) | omega, hs15]; exact q.2⟩) (fun q => Or.inr ⟨by first | (clear hps5; omega) | omega, by rw [show iO s15 = e6 by first | (clear hps5; omega) | omega]; exact q.2.1, by first | (clear hps5; omega) | omega, by first | (clear hps5; omega) | omega, sam_ts q.2.2.2.2.1 (fun j => by rw [hs15]; rfl), sam_ts q.2.2.2.2.2 (fun j => by rw [hs15]; rfl)⟩)⟩, by first | (clear hps5; omega) | omega⟩⟩
end M87k8
end
section
/-! The law's relations, call by call -/
theorem twj_st {s t : PS} (r : TWJ s) (z : NZJ s) (m : MOI s) (c0 : 0 ≤ iI s 9) (c1 : iI t 9 ≤ 12) (hc : iI t 9 = iI s 9 ∨ iI t 9 = iI s 9 + 1) (h1 : SAM 14 s t) (h2 : SAM 11 s t) : TWJ t := by
  rcases hc with hc | hc
  · intro q hq
    have w := r q hq
    rw [h1, hc]
    exact ⟨w.1, fun j hj => by rw [h2, h2]; exact w.2 j hj⟩
  · exact twj_new r hc c0 h1 h2 (nzj_m z m (Int.le_refl _) c0 (by omega))
theorem nzj_st {s t : PS} (z : NZJ s) (hc : iI s 9 ≤ iI t 9) (h : SAM 8 s t) : NZJ t := fun x k x0 x1 x2 k0 k1 => by
  unfold CNR
  rw [h]
  exact z x k (by omega) x1 x2 k0 k1
theorem nzj_fl {s t : PS} {u a b w : Int} (z : NZJ s) (f : FLU (CNR s) (CNR t) u a b w) (hu : u < iI s 9) (hc : iI t 9 = iI s 9) : NZJ t := fun x k x0 x1 x2 k0 k1 => by
  rw [f x k x1 x2 k0 k1, if_neg (by omega)]
  exact z x k (by omega) x1 x2 k0 k1
theorem NZJ_fm {L M : List Nat} {s t : PS} (F : Fm L M s t) (h : 9 ∉ L ∧ 8 ∉ M) (r : NZJ s) : NZJ t := nzj_st r (by rw [fm_i F h.1]; exact Int.le_refl _) (sam_fm F h.2)
/-- rules that are not taken: all stays -/
theorem rlj_s {s t : PS} (r : RLJ s) (e1 : iI t 13 = iI s 13) (e2 : iI t 15 = iI s 15) (e3 : SAM 16 s t) (e4 : SAM 17 s t) (e5 : iI t 85 = iI s 85) (e6 : iI t 82 = iI s 82) (e7 : SAM 158 s t) : RLJ t := by
  obtain ⟨L, r1, r2, r3⟩ := r
  refine ⟨L, ?_, ?_, fun q => r3 (e2.symm.trans q)⟩
  · have ec : ∀ x, cdL t x = cdL s x := fun x => by
      unfold cdL bgV
      simp only [show ∀ j, iC t 16 j = iC s 16 j from e3, show ∀ j, iC t 17 j = iC s 17 j from e4]
    unfold LDC
    rw [e1, ec]
    exact r1
  · rcases r2 with r2 | ⟨B, b1, b2, c, q, b3, b4⟩
    · exact Or.inl ⟨e5.trans r2.1, r2.2⟩
    · exact Or.inr ⟨B, by rw [e5, e6]; exact b1, fun k hk => (e7 k).trans (b2 k (by rw [← e6]; exact hk)), c, q, by rw [e5, e6]; exact b3, b4⟩
/-- what the class has adopted, seen a call of the model's later -/
theorem rlc_s {B : Nat → Int} {N e : Int} {t u : PS} (h : RLC B N e t) (e1 : iI u 13 = iI t 13) (e2 : iI u 15 = iI t 15) (e3 : SAM 16 t u) (e4 : SAM 17 t u) : RLC B N e u := by
  obtain ⟨c, la, h1, h2⟩ := h
  have ec : ∀ x, cdL u x = cdL t x := fun x => by
    unfold cdL bgV
    simp only [show ∀ j, iC u 16 j = iC t 16 j from e3, show ∀ j, iC u 17 j = iC t 17 j from e4]
  exact ⟨c, la, by rw [e1]; exact h1, fun q => by rw [e1, ec, e2]; exact h2 (by rw [← e1]; exact q)⟩
/-- both have read the same text of rules: one answer -/
theorem rl_eq {B : Nat → Int} {N e e' : Int} {t u : PS} (h : (0 ≤ e ∧ RLC B N e t) ∨ (e < 0 ∧ RUA B N e)) (g : (0 ≤ e' ∧ RLM B N e' u) ∨ (e' < 0 ∧ RUA B N e')) : e = e' := by
  have a : RUA B N e := h.elim (fun q => by obtain ⟨c, la, z, _⟩ := q.2; exact ruq_a z) (fun q => q.2)
  have b : RUA B N e' := g.elim (fun q => by obtain ⟨k, c, z, _⟩ := q.2; exact ruq_a z) (fun q => q.2)
  exact rua_un a b
/-- pieces of class and model: a box, moves, a mark taken back -/
theorem apj_pnq {B : Int → Prop} {p e e' : Int} {s t u : PS} (a : AEQ 21 228 128 s) (hC : PNQ B (pfC s) (pfC t) p 128 e) (hM : PNQ B (pfM t) (pfM u) p 128 e') (h1 : SAM 228 s t) (h2 : SAM 21 t u) : e = e' ∧ AEQ 21 228 128 u := by
  have z := pnq_eq hC hM (fun j hj => (a j hj).trans (h1 j).symm)
  exact ⟨z.1, fun j hj => (h2 j).trans (z.2 j hj)⟩
theorem apj_gre {U : AirD} {x e e' : Int} {s t u : PS} (a : AEQ 21 228 128 s) (l : AEQ 24 229 8 s) (A : AIR s) (d : CDJ U s) (I : ∀ j, j < 128 → -1 ≤ iC s 21 j ∧ iC s 21 j ≤ 7) (hC : GRE U (fun j => iC s 24 j) (pfC s) x e (pfC t)) (hM : GRE U (fun j => iC t 229 j) (pfM t) x e' (pfM u)) (h1 : SAM 228 s t) (h2 : SAM 21 t u) (h3 : SAM 229 s t) : e = e' ∧ AEQ 21 228 128 u := by
  have z := gre_eq (u_wok A d) (fun j hj => (a j hj).trans (h1 j).symm) (fun j hj => (l j hj).trans (h3 j).symm) I hC hM
  exact ⟨z.1, fun j hj => (h2 j).trans (z.2 j hj)⟩
theorem apj_bkq {s t u : PS} (m : MKJ s) (hk : 1 ≤ iI s 20) (hC : BKQ (pfC s) (pfC t) (fun j => iC s 25 (128 * (iI s 20 - 1).toNat + j)) 128) (hM : BKQ (pfM t) (pfM u) (fun j => iC t (241 + (iI t 98 - 1).toNat) j) 128) (em : iI t 98 = iI s 20) (hr : ∀ k j : Nat, k < 4 → iC t (241 + k) j = iC s (241 + k) j) (h2 : SAM 21 t u) : AEQ 21 228 128 u := fun j hj => by
  have b := m.1
  have z := bkq_eq hC hM (fun j hj => by
    show iC s 25 (128 * (iI s 20 - 1).toNat + j) = iC t (241 + (iI t 98 - 1).toNat) j
    rw [em, hr _ j (by omega)]
    exact m.2 _ j (by omega) hj) j hj
  exact (h2 j).trans z
/-- rules, in class and model -/
theorem rl_both {B : Nat → Int} {N e e' : Int} {s t u : PS} (r : RLJ s) (h : (0 ≤ e ∧ RLC B N e t) ∨ (e < 0 ∧ RUA B N e ∧ iI t 13 = iI s 13 ∧ iI t 15 = iI s 15 ∧ SAM 16 s t ∧ SAM 17 s t)) (g : (0 ≤ e' ∧ RLM B N e' u) ∨ (e' < 0 ∧ RUA B N e' ∧ iI u 85 = iI t 85 ∧ iI u 82 = iI t 82 ∧ SAM 158 t u)) (e1 : iI u 13 = iI t 13) (e2 : iI u 15 = iI t 15) (e3 : SAM 16 t u) (e4 : SAM 17 t u) (f1 : iI t 85 = iI s 85) (f2 : iI t 82 = iI s 82) (f3 : SAM 158 s t) : e = e' ∧ RLJ u := by
  have z : e = e' := rl_eq (u := u) (t := t) (h.imp id (fun q => ⟨q.1, q.2.1⟩)) (g.imp id (fun q => ⟨q.1, q.2.1⟩))
  refine ⟨z, ?_⟩
  rcases h with ⟨h0, h⟩ | ⟨h0, _, h1, h2, h3, h4⟩
  · rcases g with ⟨g0, g⟩ | ⟨g0, _⟩
    · rw [← z] at g
      exact rlj_new (rlc_s h e1 e2 e3 e4) g
    · omega
  · rcases g with ⟨g0, _⟩ | ⟨g0, _, g1, g2, g3⟩
    · omega
    · exact rlj_s r (e1.trans h1) (e2.trans h2) (sam_ts h3 e3) (sam_ts h4 e4) (g1.trans f1) (g2.trans f2) (sam_ts f3 g3)
/-- fewer marks -/
theorem mkj_s {s u : PS} (r : MKJ s) (hc : 0 ≤ iI u 20 ∧ iI u 20 ≤ iI s 20) (h1 : SAM 25 s u) (h2 : ∀ k j : Nat, k < 4 → iC u (241 + k) j = iC s (241 + k) j) : MKJ u := ⟨by have := r.1; omega, fun k j hk hj => by
  have c := r.1
  rw [h1, h2 k j (by omega)]
  exact r.2 k j (by omega) hj⟩
theorem mkp_t {m n : Int} {s t u : PS} (h : MKP m n t u) (h1 : SAM 228 s t) (h2 : ∀ k j : Nat, k < 4 → iC t (241 + k) j = iC s (241 + k) j) : MKP m n s u := fun k j hk => ⟨fun q => ((h k j hk).1 q).trans (h1 j), fun q => ((h k j hk).2 q).trans (h2 k j hk)⟩
theorem strx_c {B : Nat → Int} {w a b : Int} (h : STRx B w a b) : b = a ∨ b = a + 1 := by
  rcases h with ⟨h1, h2⟩ | ⟨_, ⟨_, h2⟩ | ⟨_, h2⟩⟩
  · exact Or.inl (h2.trans h1.symm)
  · exact Or.inl h2
  · exact Or.inr h2
section M87k9
variable {l : Launch} {s0 : State} {D : va_G} {tys : List (ClassId × FieldType)} {a0 : Array Value} {A : Nat → Nat} {dT : Nat → ClassId} {s : PS}
end M87k9
end
