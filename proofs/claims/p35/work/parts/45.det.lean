theorem oq_acf76229 {a0 a1 a2 : Int} (h0 : a0 ≤ a1) (h1 : a0 = a2) : a2 ≤ a1 := by omega
/-! Determined: what is heard -/
/-- T holds what is heard now -/
def OKN (T : TT) (s : PS) : Prop := ∀ j : Nat, j < 12 → (j : Int) < iI s 90 → T.2 202 j ∧ T.2 203 j ∧ (∀ c, c < 128 → T.2 (216 + j) c) ∧ ∀ k : Nat, (k : Int) < iC s 202 j → T.2 (204 + j) k
theorem OKN_fm {L M : List Nat} {T : TT} {s t : PS} (F : Fm L M s t) (h : 90 ∉ L ∧ 202 ∉ M) (r : OKN T s) : OKN T t := fun j hj hs => by
  rw [fm_i F h.1] at hs
  obtain ⟨a, b, c, d⟩ := r j hj hs
  exact ⟨a, b, c, fun k hk => d k (by rw [fm_c F h.2] at hk; exact hk)⟩
theorem OKN_mono {T T' : TT} {s : PS} (r : OKN T s) (h : ∀ a j, T.2 a j → T'.2 a j) : OKN T' s := fun j hj hs => by
  obtain ⟨a, b, c, d⟩ := r j hj hs
  exact ⟨h _ _ a, h _ _ b, fun i hi => h _ _ (c i hi), fun k hk => h _ _ (d k hk)⟩
theorem TU_0 {T : TT} {a : Nat} {k : Int} (h : k ≤ 0) : ∀ b j, (TU T a k).2 b j → T.2 b j := fun _ _ q => q.resolve_left (fun z => by have := z.2; omega)
theorem TU_s {T : TT} {a : Nat} {k : Int} (h : 0 ≤ k) : ∀ b j, (TU T a (k + 1)).2 b j → (TC (TU T a k) a k.toNat).2 b j := fun b j q => by
  rcases q with ⟨q1, q2⟩ | q
  · by_cases e : j = k.toNat
    · exact Or.inl ⟨q1, e⟩
    · exact Or.inr (Or.inl ⟨q1, by omega⟩)
  · exact Or.inr (Or.inr q)
theorem TU_le {T : TT} {a : Nat} {k m : Int} (h : m ≤ k) : ∀ b j, (TU T a m).2 b j → (TU T a k).2 b j := fun _ _ q => q.imp (fun z => ⟨z.1, by have := z.2; omega⟩) id
section M45
variable {l : Launch} {s0 : State} {D : va_G} {tys : List (ClassId × FieldType)} {a0 : Array Value} {A : Nat → Nat} {dT : Nat → ClassId} {s : PS}
set_option maxHeartbeats 16000000 in
theorem d_goes (G : GX l s0 D tys a0 dT) (I : Bd s) {x y : Int} (p0 : 0 ≤ x ∧ x ≤ 11) (p1 : 0 ≤ y ∧ y < iC s 202 (x : Int).toNat) (p2 : x < iI s 90) {T : TT} (hti : ∀ q ∈ ([] : List Nat), T.1 q) (hta : ∀ a ∈ ([] : List Nat), ∀ j, j < (bA a).2.2 → T.2 a j) (htn : OKN T s) : CD l s0 D A dT 226 (rmN 226) [] [] T (T) [.ref (A 179), .int (Int32.ofInt x), .int (Int32.ofInt y)] s (fun o t => Bd t ∧ Fm [] [] s t ∧ ∃ e, o = .inl (some (.int (Int32.ofInt e))) ∧ rng e ∧ (0 ≤ e ∧ e ≤ 6)) := by
  refine cd_of G (by decide) (Nat.le_of_ble_eq_true rfl) (fun Q hQ => ?_)
  have I0 := I
  show DS l s0 D A dT 226 (rmN 226) [] [] (T) Q (T) 0 [(0, .ref (A 179)), (1, .int (Int32.ofInt x)), (2, .int (Int32.ofInt y))] [] s
  have F : Fm [] [] s s := fm_rf _ _ s
  refine d_lift (fun k ws X h => z_aload_n X (x := A 179) rfl (List.Mem.head _) h) (d_liftS (fun k s X h => s_getR X 179 rfl (by decide) rfl rfl h) (d_lift (fun k ws X h => z_load_n X (x := x) rfl (List.Mem.tail _ (List.Mem.head _)) h) (d_ald 228 rfl (by decide) rfl (by first | exact p0.1 | omega) (show x < 12 by first | exact oq_0ddfcfee p0.2 | omega) (by decide) ((htn _ (show (x : Int).toNat < 12 by omega) (show (((x : Int).toNat : Nat) : Int) < iI s 90 by omega)).1) ?_)))
  have b1 := bc_202 I (show (x).toNat < 12 by first | exact oq_9c5fa447 p0.2 | omega)
  refine d_lift (fun k ws X h => z_const X rfl h) (d_br (bo_ne _ _) bx_ne (fun k ws X h1 h2 => z_icmp_ne X (t := 15) rfl (by decide) (rng_to _) (by decide) h1 h2) (fun g2 => ?_) (fun g2 => ?_))
  ·
    refine d_lift (fun k ws X h => z_load_n X (x := y) rfl (List.Mem.tail _ (List.Mem.tail _ (List.Mem.head _))) h) (d_lift (fun k ws X h => z_aload_n X (x := A 179) rfl (List.Mem.head _) h) (d_liftS (fun k s X h => s_getR X 179 rfl (by decide) rfl rfl h) (d_lift (fun k ws X h => z_load_n X (x := x) rfl (List.Mem.tail _ (List.Mem.head _)) h) (d_ald 228 rfl (by decide) rfl (by first | exact p0.1 | omega) (show x < 12 by first | exact oq_0ddfcfee p0.2 | omega) (by decide) ((htn _ (show (x : Int).toNat < 12 by first | (clear g2; omega) | omega) (show (((x : Int).toNat : Nat) : Int) < iI s 90 by first | (clear g2; omega) | omega)).1) ?_))))
    have b3 := bc_202 I (show (x).toNat < 12 by first | exact oq_9c5fa447 p0.2 | omega)
    refine d_lift (fun k ws X h => z_const X rfl h) (d_lift (fun k ws X h => z_sub X rfl h) (d_br (bo_ne _ _) bx_ne (fun k ws X h1 h2 => z_icmp_ne X (t := 51) rfl (by decide) ⟨by first | exact oq_fa4e5087 p1.1 | omega, by first | exact oq_cd47680f p1.2 b3.2 | omega⟩ ⟨by first | exact oq_c1e961c7 b3.1 | omega, by first | exact oq_0332e1ab b3.2 | omega⟩ h1 h2) (fun g4 => ?_) (fun g4 => ?_)))
    ·
      refine d_lift (fun k ws X h => z_aload_n X (x := A 179) rfl (List.Mem.head _) h) (d_liftS (fun k s X h => s_getR X 179 rfl (by decide) rfl rfl h) (d_lift (fun k ws X h => z_load_n X (x := x) rfl (List.Mem.tail _ (List.Mem.head _)) h) (d_liftS (fun k s X h => z_aald X rw_230 rfl (by first | exact p0.1 | omega) (show x < 12 by first | exact oq_0ddfcfee p0.2 | omega) (by decide) h) (d_lift (fun k ws X h => z_load_n X (x := y) rfl (List.Mem.tail _ (List.Mem.tail _ (List.Mem.head _))) h) (d_ald2 rw_230 rfl (show (x : Int).toNat < 12 by first | exact oq_9c5fa447 p0.2 | omega) (by first | exact p1.1 | omega) (show y < 24 by first | exact oq_8ff7beb9 p1.2 b3.2 | omega) (by decide) ((htn _ (show (x : Int).toNat < 12 by first | (clear g4 g2; omega) | (clear g2; omega) | omega) (show (((x : Int).toNat : Nat) : Int) < iI s 90 by first | (clear g4 g2; omega) | (clear g2; omega) | omega)).2.2.2 _ (show (((y : Int).toNat : Nat) : Int) < iC s 202 (x : Int).toNat by first | (clear g4 g2; omega) | (clear g2; omega) | omega)) ?_)))))
      have b5 : (0 : Int) ≤ (iC s (204 + (x : Int).toNat) (y : Int).toNat) ∧ (iC s (204 + (x : Int).toNat) (y : Int).toNat) ≤ 127 := rw_bd rw_230 I (show (x : Int).toNat < 12 by first | exact oq_9c5fa447 p0.2 | omega) (show (y : Int).toNat < 24 by first | exact oq_9e668fc9 p1.2 b3.2 | omega)
      refine d_lift (fun k ws X h => z_aload_n X (x := A 179) rfl (List.Mem.head _) h) (d_liftS (fun k s X h => s_getR X 179 rfl (by decide) rfl rfl h) (d_lift (fun k ws X h => z_load_n X (x := x) rfl (List.Mem.tail _ (List.Mem.head _)) h) (d_liftS (fun k s X h => z_aald X rw_230 rfl (by first | exact p0.1 | omega) (show x < 12 by first | exact oq_0ddfcfee p0.2 | omega) (by decide) h) (d_lift (fun k ws X h => z_load_n X (x := y) rfl (List.Mem.tail _ (List.Mem.tail _ (List.Mem.head _))) h) (d_lift (fun k ws X h => z_const X rfl h) (d_lift (fun k ws X h => z_add X rfl h) (d_ald2 rw_230 rfl (show (x : Int).toNat < 12 by first | exact oq_9c5fa447 p0.2 | omega) (by first | exact oq_54f49eb5 p1.1 | omega) (show (y + 1) < 24 by first | exact oq_0152e793 g4 b3.2 p1.2 | omega) (by decide) ((htn _ (show (x : Int).toNat < 12 by first | (clear g4 g2; omega) | (clear g2; omega) | omega) (show (((x : Int).toNat : Nat) : Int) < iI s 90 by first | (clear g4 g2; omega) | (clear g2; omega) | omega)).2.2.2 _ (show ((((y + 1) : Int).toNat : Nat) : Int) < iC s 202 (x : Int).toNat by first | (clear g4 g2; omega) | (clear g2; omega) | omega)) ?_)))))))
      have b6 : (0 : Int) ≤ (iC s (204 + (x : Int).toNat) ((y + 1) : Int).toNat) ∧ (iC s (204 + (x : Int).toNat) ((y + 1) : Int).toNat) ≤ 127 := rw_bd rw_230 I (show (x : Int).toNat < 12 by first | exact oq_9c5fa447 p0.2 | omega) (show ((y + 1) : Int).toNat < 24 by first | exact oq_fa8c9353 g4 b3.2 p1.2 | omega)
      refine d_callT (As := [.int (Int32.ofInt (iC s (204 + (x : Int).toNat) (y : Int).toNat)), .int (Int32.ofInt (iC s (204 + (x : Int).toNat) ((y + 1) : Int).toNat))]) (st := []) rfl rfl (d_stepOf G I (by first | exact ⟨b5.1, b5.2⟩ | omega) (by first | exact ⟨b6.1, b6.2⟩ | omega) (fun q h => hti q ((by decide : ∀ q ∈ ([] : List Nat), q ∈ ([] : List Nat)) q h)) (fun a h => hta a ((by decide : ∀ q ∈ ([] : List Nat), q ∈ ([] : List Nat)) a h))) ⟨rfl, rfl⟩ ⟨(show 6 + 1 ≤ 7 from oq_7ae2681c), (show 8 + (mNL (miB 225) + 11) + 100 ≤ 121 from oq_68e6451f)⟩ (Nat.le_of_ble_eq_true rfl) (by decide) (by decide) (fun ee s7 hq => ?_) (fun vv s7 hq => ?_)
      · obtain ⟨Is7, Fs7, e8, hv, hrs7, hps7⟩ := hq; cases hv
      obtain ⟨Is7, Fs7, e8, hv, hrs7, hps7⟩ := hq
      cases hv
      have Gs7 := fm_tq F Fs7 rfl rfl
      show DS l s0 D A dT 226 (rmN 226) [] [] (T) Q (T) 72 [(0, .ref (A 179)), (1, .int (Int32.ofInt x)), (2, .int (Int32.ofInt y))] [.int (Int32.ofInt e8)] s7
      exact d_iret rfl rfl (Or.inl rfl) rfl (fun _ h => h) (hQ _ _ ⟨Is7, Gs7, e8, rfl, hrs7, by first | exact ⟨hps7.1, oq_b982df86 hps7.2⟩ | omega⟩)
    ·
      refine d_lift (fun k ws X h => z_aload_n X (x := A 179) rfl (List.Mem.head _) h) (d_liftS (fun k s X h => s_getR X 179 rfl (by decide) rfl rfl h) (d_lift (fun k ws X h => z_load_n X (x := x) rfl (List.Mem.tail _ (List.Mem.head _)) h) (d_liftS (fun k s X h => z_aald X rw_230 rfl (by first | exact p0.1 | omega) (show x < 12 by first | exact oq_0ddfcfee p0.2 | omega) (by decide) h) (d_lift (fun k ws X h => z_load_n X (x := y) rfl (List.Mem.tail _ (List.Mem.tail _ (List.Mem.head _))) h) (d_lift (fun k ws X h => z_const X rfl h) (d_lift (fun k ws X h => z_sub X rfl h) (d_ald2 rw_230 rfl (show (x : Int).toNat < 12 by first | exact oq_9c5fa447 p0.2 | omega) (by first | exact oq_35f9a344 g4 g2 p1.1 | omega) (show (y - 1) < 24 by first | exact oq_514020d0 g4 b3.2 | omega) (by decide) ((htn _ (show (x : Int).toNat < 12 by first | (clear g2; omega) | omega) (show (((x : Int).toNat : Nat) : Int) < iI s 90 by first | (clear g2; omega) | omega)).2.2.2 _ (show ((((y - 1) : Int).toNat : Nat) : Int) < iC s 202 (x : Int).toNat by first | (clear g2; omega) | omega)) ?_)))))))
      have b9 : (0 : Int) ≤ (iC s (204 + (x : Int).toNat) ((y - 1) : Int).toNat) ∧ (iC s (204 + (x : Int).toNat) ((y - 1) : Int).toNat) ≤ 127 := rw_bd rw_230 I (show (x : Int).toNat < 12 by first | exact oq_9c5fa447 p0.2 | omega) (show ((y - 1) : Int).toNat < 24 by first | exact oq_4b444e5a g4 b3.2 | omega)
      refine d_lift (fun k ws X h => z_aload_n X (x := A 179) rfl (List.Mem.head _) h) (d_liftS (fun k s X h => s_getR X 179 rfl (by decide) rfl rfl h) (d_lift (fun k ws X h => z_load_n X (x := x) rfl (List.Mem.tail _ (List.Mem.head _)) h) (d_liftS (fun k s X h => z_aald X rw_230 rfl (by first | exact p0.1 | omega) (show x < 12 by first | exact oq_0ddfcfee p0.2 | omega) (by decide) h) (d_lift (fun k ws X h => z_load_n X (x := y) rfl (List.Mem.tail _ (List.Mem.tail _ (List.Mem.head _))) h) (d_ald2 rw_230 rfl (show (x : Int).toNat < 12 by first | exact oq_9c5fa447 p0.2 | omega) (by first | exact p1.1 | omega) (show y < 24 by first | exact oq_9cfd8ba8 g4 b3.2 | omega) (by decide) ((htn _ (show (x : Int).toNat < 12 by first | (clear g2; omega) | omega) (show (((x : Int).toNat : Nat) : Int) < iI s 90 by first | (clear g2; omega) | omega)).2.2.2 _ (show (((y : Int).toNat : Nat) : Int) < iC s 202 (x : Int).toNat by first | (clear g2; omega) | omega)) ?_)))))
      have b10 : (0 : Int) ≤ (iC s (204 + (x : Int).toNat) (y : Int).toNat) ∧ (iC s (204 + (x : Int).toNat) (y : Int).toNat) ≤ 127 := rw_bd rw_230 I (show (x : Int).toNat < 12 by first | exact oq_9c5fa447 p0.2 | omega) (show (y : Int).toNat < 24 by first | exact oq_bfe9ed15 g4 b3.2 | omega)
      refine d_callT (As := [.int (Int32.ofInt (iC s (204 + (x : Int).toNat) ((y - 1) : Int).toNat)), .int (Int32.ofInt (iC s (204 + (x : Int).toNat) (y : Int).toNat))]) (st := []) rfl rfl (d_stepOf G I (by first | exact ⟨b9.1, b9.2⟩ | omega) (by first | exact ⟨b10.1, b10.2⟩ | omega) (fun q h => hti q ((by decide : ∀ q ∈ ([] : List Nat), q ∈ ([] : List Nat)) q h)) (fun a h => hta a ((by decide : ∀ q ∈ ([] : List Nat), q ∈ ([] : List Nat)) a h))) ⟨rfl, rfl⟩ ⟨(show 6 + 1 ≤ 7 from oq_7ae2681c), (show 8 + (mNL (miB 225) + 11) + 100 ≤ 121 from oq_68e6451f)⟩ (Nat.le_of_ble_eq_true rfl) (by decide) (by decide) (fun ee s11 hq => ?_) (fun vv s11 hq => ?_)
      · obtain ⟨Is11, Fs11, e12, hv, hrs11, hps11⟩ := hq; cases hv
      obtain ⟨Is11, Fs11, e12, hv, hrs11, hps11⟩ := hq
      cases hv
      have Gs11 := fm_tq F Fs11 rfl rfl
      show DS l s0 D A dT 226 (rmN 226) [] [] (T) Q (T) 48 [(0, .ref (A 179)), (1, .int (Int32.ofInt x)), (2, .int (Int32.ofInt y))] [.int (Int32.ofInt e12)] s11
      refine d_lift (fun k ws X h => z_goto X (t := 72) rfl (by decide) h) ?_
      exact d_iret rfl rfl (Or.inl rfl) rfl (fun _ h => h) (hQ _ _ ⟨Is11, Gs11, e12, rfl, hrs11, by first | exact ⟨hps11.1, oq_b982df86 hps11.2⟩ | omega⟩)
  ·
    refine d_lift (fun k ws X h => z_bipush X rfl h) (d_lift (fun k ws X h => z_goto X (t := 72) rfl (by decide) h) ?_)
    exact d_iret rfl rfl (Or.inl rfl) rfl (fun _ h => h) (hQ _ _ ⟨I, F, 6, rfl, (by decide), by first | exact ⟨by decide, by decide⟩ | omega⟩)
set_option maxHeartbeats 16000000 in
theorem d_readsAt (G : GX l s0 D tys a0 dT) (I : Bd s) {x : Int} (p0 : 0 ≤ x ∧ x ≤ 380) {T : TT} (hti : ∀ q ∈ ([82] : List Nat), T.1 q) (hta : ∀ a ∈ ([] : List Nat), ∀ j, j < (bA a).2.2 → T.2 a j) : CD l s0 D A dT 216 (rmN 216) [81, 75, 77, 78, 79] [] T (TI (TI (TI (TI (TI T 81) 75) 77) 78) 79) [.ref (A 179), .int (Int32.ofInt x)] s (fun o t => Bd t ∧ Fm [81, 75, 77, 78, 79] [] s t ∧ o = .inl none ∧ (iI t 77 = x ∧ iI t 78 = 0 ∧ iI t 79 = 0)) := by
  refine cd_of G (by decide) (Nat.le_of_ble_eq_true rfl) (fun Q hQ => ?_)
  have I0 := I
  show DS l s0 D A dT 216 (rmN 216) [81, 75, 77, 78, 79] [] (TI (TI (TI (TI (TI T 81) 75) 77) 78) 79) Q (T) 0 [(0, .ref (A 179)), (1, .int (Int32.ofInt x))] [] s
  have F : Fm [81, 75, 77, 78, 79] [] s s := fm_rf _ _ s
  have b1 := bi_77 I
  have b2 := bi_78 I
  have b3 := bi_79 I
  refine d_lift (fun k ws X h => z_aload_n X (x := A 179) rfl (List.Mem.head _) h) (d_lift (fun k ws X h => z_const X rfl h) (d_putI 179 rfl (by decide) rfl rfl (by decide) rfl rfl rfl (show 81 ∈ _ by decide) (show (0 : Int) ≤ 1 ∧ 1 ≤ 1 by first | exact ⟨by decide, by decide⟩ | omega) (by decide) ?_))
  have hti4 : ∀ q ∈ [81, 82], (TI (T) 81).1 q := hti_g hti
  refine ds_gen (fun s5 hs5 => ?_)
  have Is5 : Bd s5 := eqB hs5 (bd_I I (show (0 : Int) ≤ 1 ∧ 1 ≤ 1 by first | exact ⟨by decide, by decide⟩ | omega) (by decide))
  have Fs5 := eqF hs5 (fm_I F (inl_ok (a := 81) rfl))
  have vs5 : iI s5 81 = 1 := eqI hs5 (iI_u (by decide))
  have ws5_77 : iI s5 77 = iI s 77 := eqI hs5 rfl
  have ws5_78 : iI s5 78 = iI s 78 := eqI hs5 rfl
  have ws5_79 : iI s5 79 = iI s 79 := eqI hs5 rfl
  refine d_lift (fun k ws X h => z_aload_n X (x := A 179) rfl (List.Mem.head _) h) (d_lift (fun k ws X h => z_aload_n X (x := A 179) rfl (List.Mem.head _) h) (d_getI 179 rfl (by decide) rfl rfl (hti4 82 (by decide)) ?_))
  have b6 := bi_82 Is5
  refine d_putI 179 rfl (by decide) rfl rfl (by decide) rfl rfl rfl (show 75 ∈ _ by decide) (show (0 : Int) ≤ (iI s5 82) ∧ (iI s5 82) ≤ 200 by first | exact ⟨b6.1, b6.2⟩ | omega) (rng_to _) ?_
  have hti7 : ∀ q ∈ [75, 81, 82], (TI (TI (T) 81) 75).1 q := hti_g hti4
  refine ds_gen (fun s8 hs8 => ?_)
  have Is8 : Bd s8 := eqB hs8 (bd_I Is5 (show (0 : Int) ≤ (iI s5 82) ∧ (iI s5 82) ≤ 200 by first | exact ⟨b6.1, b6.2⟩ | omega) (rng_to _))
  have Fs8 := eqF hs8 (fm_I Fs5 (inl_ok (a := 75) rfl))
  have vs8 : iI s8 75 = (iI s5 82) := eqI hs8 (iI_u (rng_to _))
  have ws8_77 : iI s8 77 = iI s5 77 := eqI hs8 rfl
  have ws8_78 : iI s8 78 = iI s5 78 := eqI hs8 rfl
  have ws8_79 : iI s8 79 = iI s5 79 := eqI hs8 rfl
  refine d_lift (fun k ws X h => z_aload_n X (x := A 179) rfl (List.Mem.head _) h) (d_lift (fun k ws X h => z_load_n X (x := x) rfl (List.Mem.tail _ (List.Mem.head _)) h) (d_putI 179 rfl (by decide) rfl rfl (by decide) rfl rfl rfl (show 77 ∈ _ by decide) (show (0 : Int) ≤ x ∧ x ≤ 400 by first | exact ⟨p0.1, oq_6c55e2f6 p0.2⟩ | omega) ⟨by first | exact oq_fa4e5087 p0.1 | omega, by first | exact oq_5d668942 p0.2 | omega⟩ ?_))
  have hti9 : ∀ q ∈ [77, 75, 81, 82], (TI (TI (TI (T) 81) 75) 77).1 q := hti_g hti7
  refine ds_gen (fun s10 hs10 => ?_)
  have Is10 : Bd s10 := eqB hs10 (bd_I Is8 (show (0 : Int) ≤ x ∧ x ≤ 400 by first | exact ⟨p0.1, oq_6c55e2f6 p0.2⟩ | omega) ⟨by first | exact oq_fa4e5087 p0.1 | omega, by first | exact oq_5d668942 p0.2 | omega⟩)
  have Fs10 := eqF hs10 (fm_I Fs8 (inl_ok (a := 77) rfl))
  have vs10 : iI s10 77 = x := eqI hs10 (iI_u ⟨by first | exact oq_fa4e5087 p0.1 | omega, by first | exact oq_5d668942 p0.2 | omega⟩)
  have ws10_78 : iI s10 78 = iI s8 78 := eqI hs10 rfl
  have ws10_79 : iI s10 79 = iI s8 79 := eqI hs10 rfl
  refine d_lift (fun k ws X h => z_aload_n X (x := A 179) rfl (List.Mem.head _) h) (d_lift (fun k ws X h => z_const X rfl h) (d_putI 179 rfl (by decide) rfl rfl (by decide) rfl rfl rfl (show 78 ∈ _ by decide) (show (0 : Int) ≤ 0 ∧ 0 ≤ 8 by first | exact ⟨by decide, by decide⟩ | omega) (by decide) ?_))
  have hti11 : ∀ q ∈ [78, 77, 75, 81, 82], (TI (TI (TI (TI (T) 81) 75) 77) 78).1 q := hti_g hti9
  refine ds_gen (fun s12 hs12 => ?_)
  have Is12 : Bd s12 := eqB hs12 (bd_I Is10 (show (0 : Int) ≤ 0 ∧ 0 ≤ 8 by first | exact ⟨by decide, by decide⟩ | omega) (by decide))
  have Fs12 := eqF hs12 (fm_I Fs10 (inl_ok (a := 78) rfl))
  have vs12 : iI s12 78 = 0 := eqI hs12 (iI_u (by decide))
  have ws12_77 : iI s12 77 = iI s10 77 := eqI hs12 rfl
  have ws12_79 : iI s12 79 = iI s10 79 := eqI hs12 rfl
  refine d_lift (fun k ws X h => z_aload_n X (x := A 179) rfl (List.Mem.head _) h) (d_lift (fun k ws X h => z_const X rfl h) (d_putI 179 rfl (by decide) rfl rfl (by decide) rfl rfl rfl (show 79 ∈ _ by decide) (show (0 : Int) ≤ 0 ∧ 0 ≤ 9 by first | exact ⟨by decide, by decide⟩ | omega) (by decide) ?_))
  have hti13 : ∀ q ∈ [79, 78, 77, 75, 81, 82], (TI (TI (TI (TI (TI (T) 81) 75) 77) 78) 79).1 q := hti_g hti11
  refine ds_gen (fun s14 hs14 => ?_)
  have Is14 : Bd s14 := eqB hs14 (bd_I Is12 (show (0 : Int) ≤ 0 ∧ 0 ≤ 9 by first | exact ⟨by decide, by decide⟩ | omega) (by decide))
  have Fs14 := eqF hs14 (fm_I Fs12 (inl_ok (a := 79) rfl))
  have vs14 : iI s14 79 = 0 := eqI hs14 (iI_u (by decide))
  have ws14_77 : iI s14 77 = iI s12 77 := eqI hs14 rfl
  have ws14_78 : iI s14 78 = iI s12 78 := eqI hs14 rfl
  exact d_vret rfl rfl (fun _ h => h) (hQ _ _ ⟨Is14, Fs14, rfl, by first | exact ⟨oq_d0d2714e ws14_77 vs10 ws12_77, oq_e5e5d3d6 ws14_78 vs12, vs14⟩ | omega⟩)
end M45
