theorem oq_acf76229 {a0 a1 a2 : Int} (h0 : a0 ≤ a1) (h1 : a0 = a2) : a2 ≤ a1 := by omega
theorem oq_bddf4d11 : 8 + (5 + 11) + 122 ≤ 146 := by omega
/-! Determined: what is heard -/
/-- T holds what is heard now -/
def OKN (T : TT) (s : PS) : Prop := ∀ j : Nat, j < 12 → (j : Int) < iI s 90 → T.2 202 j ∧ T.2 203 j ∧ (∀ c, c < 128 → T.2 (216 + j) c) ∧ ∀ k : Nat, (k : Int) < iC s 202 j → T.2 (204 + j) k
theorem OKN_fm {L M : List Nat} {T : TT} {s t : PS} (F : Fm L M s t) (h : 90 ∉ L ∧ 202 ∉ M) (r : OKN T s) : OKN T t := fun j hj hs => by
  rw [fm_i F h.1] at hs
  obtain ⟨a, b, c, d⟩ := r j hj hs
  exact ⟨a, b, c, fun k hk => d k (by rw [fm_c F h.2] at hk; exact hk)⟩
theorem OKN_mono {T T' : TT} {s : PS} (r : OKN T s) (h : ∀ a j, T.2 a j → T'.2 a j) : OKN T' s := fun j hj hs => by
  obtain ⟨a, b, c, d⟩ := r j hj hs
  exact ⟨h _ _ a, h _ _ b, fun i hi => h _ _ (c i hi), fun k hk => h _ _ (d k hk)⟩
theorem TU_0 {T : TT} {a : Nat} {k : Int} (h : k ≤ 0) : ∀ b j, (TU T a k).2 b j → T.2 b j := fun _ _ q => q.resolve_left (fun z => by have := z.2; omega)
theorem TU_s {T : TT} {a : Nat} {k : Int} (h : 0 ≤ k) : ∀ b j, (TU T a (k + 1)).2 b j → (TC (TU T a k) a k.toNat).2 b j := fun b j q => by
  rcases q with ⟨q1, q2⟩ | q
  · by_cases e : j = k.toNat
    · exact Or.inl ⟨q1, e⟩
    · exact Or.inr (Or.inl ⟨q1, by omega⟩)
  · exact Or.inr (Or.inr q)
theorem TU_le {T : TT} {a : Nat} {k m : Int} (h : m ≤ k) : ∀ b j, (TU T a m).2 b j → (TU T a k).2 b j := fun _ _ q => q.imp (fun z => ⟨z.1, by have := z.2; omega⟩) id
section M45
variable {l : Launch} {s0 : State} {D : va_G} {tys : List (ClassId × FieldType)} {a0 : Array Value} {A : Nat → Nat} {dT : Nat → ClassId} {s : PS}
set_option maxHeartbeats 16000000 in
theorem d_goes (G : GX l s0 D tys a0 dT) (I : Bd s) {x y : Int} (p0 : 0 ≤ x ∧ x ≤ 11) (p1 : 0 ≤ y ∧ y < iC s 202 (x : Int).toNat) (p2 : x < iI s 90) {T : TT} (hti : ∀ q ∈ ([] : List Nat), T.1 q) (hta : ∀ a ∈ ([] : List Nat), ∀ j, j < (bA a).2.2 → T.2 a j) (htn : OKN T s) : CD l s0 D A dT 226 (rmN 226) [] [] T (T) [.ref (A 179), .int (Int32.ofInt x), .int (Int32.ofInt y)] s (fun o t => Bd t ∧ Fm [] [] s t ∧ ∃ e, o = .inl (some (.int (Int32.ofInt e))) ∧ rng e ∧ (0 ≤ e ∧ e ≤ 6)) := by
  refine cd_of G (by decide) (Nat.le_of_ble_eq_true rfl) (fun Q hQ => ?_)
  have I0 := I
  show DS l s0 D A dT 226 (rmN 226) [] [] (T) Q (T) 0 [(0, .ref (A 179)), (1, .int (Int32.ofInt x)), (2, .int (Int32.ofInt y))] [] s
  have F : Fm [] [] s s := fm_rf _ _ s
  refine d_lift (fun k ws X h => z_aload_n X (x := A 179) rfl (List.Mem.head _) h) (d_liftS (fun k s X h => s_getR X 179 rfl (by decide) rfl rfl h) (d_lift (fun k ws X h => z_load_n X (x := x) rfl (List.Mem.tail _ (List.Mem.head _)) h) (d_ald 228 rfl (by decide) rfl (by first | exact p0.1 | omega) (show x < 12 by first | exact oq_0ddfcfee p0.2 | omega) (by decide) ((htn _ (show (x : Int).toNat < 12 by omega) (show (((x : Int).toNat : Nat) : Int) < iI s 90 by omega)).1) ?_)))
  have b1 := bc_202 I (show (x).toNat < 12 by first | exact oq_9c5fa447 p0.2 | omega)
  refine d_lift (fun k ws X h => z_const X rfl h) (d_br (bo_ne _ _) bx_ne (fun k ws X h1 h2 => z_icmp_ne X (t := 15) rfl (by decide) (rng_to _) (by decide) h1 h2) (fun g2 => ?_) (fun g2 => ?_))
  ·
    refine d_lift (fun k ws X h => z_load_n X (x := y) rfl (List.Mem.tail _ (List.Mem.tail _ (List.Mem.head _))) h) (d_lift (fun k ws X h => z_aload_n X (x := A 179) rfl (List.Mem.head _) h) (d_liftS (fun k s X h => s_getR X 179 rfl (by decide) rfl rfl h) (d_lift (fun k ws X h => z_load_n X (x := x) rfl (List.Mem.tail _ (List.Mem.head _)) h) (d_ald 228 rfl (by decide) rfl (by first | exact p0.1 | omega) (show x < 12 by first | exact oq_0ddfcfee p0.2 | omega) (by decide) ((htn _ (show (x : Int).toNat < 12 by first | (clear g2; omega) | omega) (show (((x : Int).toNat : Nat) : Int) < iI s 90 by first | (clear g2; omega) | omega)).1) ?_))))
    have b3 := bc_202 I (show (x).toNat < 12 by first | exact oq_9c5fa447 p0.2 | omega)
    refine d_lift (fun k ws X h => z_const X rfl h) (d_lift (fun k ws X h => z_sub X rfl h) (d_br (bo_ne _ _) bx_ne (fun k ws X h1 h2 => z_icmp_ne X (t := 51) rfl (by decide) ⟨by first | exact oq_fa4e5087 p1.1 | omega, by first | exact oq_cd47680f p1.2 b3.2 | omega⟩ ⟨by first | exact oq_c1e961c7 b3.1 | omega, by first | exact oq_0332e1ab b3.2 | omega⟩ h1 h2) (fun g4 => ?_) (fun g4 => ?_)))
    ·
      refine d_lift (fun k ws X h => z_aload_n X (x := A 179) rfl (List.Mem.head _) h) (d_liftS (fun k s X h => s_getR X 179 rfl (by decide) rfl rfl h) (d_lift (fun k ws X h => z_load_n X (x := x) rfl (List.Mem.tail _ (List.Mem.head _)) h) (d_liftS (fun k s X h => z_aald X rw_230 rfl (by first | exact p0.1 | omega) (show x < 12 by first | exact oq_0ddfcfee p0.2 | omega) (by decide) h) (d_lift (fun k ws X h => z_load_n X (x := y) rfl (List.Mem.tail _ (List.Mem.tail _ (List.Mem.head _))) h) (d_ald2 rw_230 rfl (show (x : Int).toNat < 12 by first | exact oq_9c5fa447 p0.2 | omega) (by first | exact p1.1 | omega) (show y < 24 by first | exact oq_8ff7beb9 p1.2 b3.2 | omega) (by decide) ((htn _ (show (x : Int).toNat < 12 by first | (clear g4 g2; omega) | (clear g2; omega) | omega) (show (((x : Int).toNat : Nat) : Int) < iI s 90 by first | (clear g4 g2; omega) | (clear g2; omega) | omega)).2.2.2 _ (show (((y : Int).toNat : Nat) : Int) < iC s 202 (x : Int).toNat by first | (clear g4 g2; omega) | (clear g2; omega) | omega)) ?_)))))
      have b5 : (0 : Int) ≤ (iC s (204 + (x : Int).toNat) (y : Int).toNat) ∧ (iC s (204 + (x : Int).toNat) (y : Int).toNat) ≤ 127 := rw_bd rw_230 I (show (x : Int).toNat < 12 by first | exact oq_9c5fa447 p0.2 | omega) (show (y : Int).toNat < 24 by first | exact oq_9e668fc9 p1.2 b3.2 | omega)
      refine d_lift (fun k ws X h => z_aload_n X (x := A 179) rfl (List.Mem.head _) h) (d_liftS (fun k s X h => s_getR X 179 rfl (by decide) rfl rfl h) (d_lift (fun k ws X h => z_load_n X (x := x) rfl (List.Mem.tail _ (List.Mem.head _)) h) (d_liftS (fun k s X h => z_aald X rw_230 rfl (by first | exact p0.1 | omega) (show x < 12 by first | exact oq_0ddfcfee p0.2 | omega) (by decide) h) (d_lift (fun k ws X h => z_load_n X (x := y) rfl (List.Mem.tail _ (List.Mem.tail _ (List.Mem.head _))) h) (d_lift (fun k ws X h => z_const X rfl h) (d_lift (fun k ws X h => z_add X rfl h) (d_ald2 rw_230 rfl (show (x : Int).toNat < 12 by first | exact oq_9c5fa447 p0.2 | omega) (by first | exact oq_54f49eb5 p1.1 | omega) (show (y + 1) < 24 by first | exact oq_0152e793 g4 b3.2 p1.2 | omega) (by decide) ((htn _ (show (x : Int).toNat < 12 by first | (clear g4 g2; omega) | (clear g2; omega) | omega) (show (((x : Int).toNat : Nat) : Int) < iI s 90 by first | (clear g4 g2; omega) | (clear g2; omega) | omega)).2.2.2 _ (show ((((y + 1) : Int).toNat : Nat) : Int) < iC s 202 (x : Int).toNat by first | (clear g4 g2; omega) | (clear g2; omega) | omega)) ?_)))))))
      have b6 : (0 : Int) ≤ (iC s (204 + (x : Int).toNat) ((y + 1) : Int).toNat) ∧ (iC s (204 + (x : Int).toNat) ((y + 1) : Int).toNat) ≤ 127 := rw_bd rw_230 I (show (x : Int).toNat < 12 by first | exact oq_9c5fa447 p0.2 | omega) (show ((y + 1) : Int).toNat < 24 by first | exact oq_fa8c9353 g4 b3.2 p1.2 | omega)
      refine d_callT (As := [.int (Int32.ofInt (iC s (204 + (x : Int).toNat) (y : Int).toNat)), .int (Int32.ofInt (iC s (204 + (x : Int).toNat) ((y + 1) : Int).toNat))]) (st := []) rfl rfl (d_stepOf G I (by first | exact ⟨b5.1, b5.2⟩ | omega) (by first | exact ⟨b6.1, b6.2⟩ | omega) (fun q h => hti q ((by decide : ∀ q ∈ ([] : List Nat), q ∈ ([] : List Nat)) q h)) (fun a h => hta a ((by decide : ∀ q ∈ ([] : List Nat), q ∈ ([] : List Nat)) a h))) ⟨rfl, rfl⟩ ⟨(show 6 + 1 ≤ 7 from oq_7ae2681c), (show 8 + (mNL (miB 225) + 11) + 100 ≤ 121 from oq_68e6451f)⟩ (Nat.le_of_ble_eq_true rfl) (by decide) (by decide) (fun ee s7 hq => ?_) (fun vv s7 hq => ?_)
      · obtain ⟨Is7, Fs7, e8, hv, hrs7, hps7⟩ := hq; cases hv
      obtain ⟨Is7, Fs7, e8, hv, hrs7, hps7⟩ := hq
      cases hv
      have Gs7 := fm_tq F Fs7 rfl rfl
      show DS l s0 D A dT 226 (rmN 226) [] [] (T) Q (T) 72 [(0, .ref (A 179)), (1, .int (Int32.ofInt x)), (2, .int (Int32.ofInt y))] [.int (Int32.ofInt e8)] s7
      exact d_iret rfl rfl (Or.inl rfl) rfl (fun _ h => h) (hQ _ _ ⟨Is7, Gs7, e8, rfl, hrs7, by first | exact ⟨hps7.1, oq_b982df86 hps7.2⟩ | omega⟩)
    ·
      refine d_lift (fun k ws X h => z_aload_n X (x := A 179) rfl (List.Mem.head _) h) (d_liftS (fun k s X h => s_getR X 179 rfl (by decide) rfl rfl h) (d_lift (fun k ws X h => z_load_n X (x := x) rfl (List.Mem.tail _ (List.Mem.head _)) h) (d_liftS (fun k s X h => z_aald X rw_230 rfl (by first | exact p0.1 | omega) (show x < 12 by first | exact oq_0ddfcfee p0.2 | omega) (by decide) h) (d_lift (fun k ws X h => z_load_n X (x := y) rfl (List.Mem.tail _ (List.Mem.tail _ (List.Mem.head _))) h) (d_lift (fun k ws X h => z_const X rfl h) (d_lift (fun k ws X h => z_sub X rfl h) (d_ald2 rw_230 rfl (show (x : Int).toNat < 12 by first | exact oq_9c5fa447 p0.2 | omega) (by first | exact oq_35f9a344 g4 g2 p1.1 | omega) (show (y - 1) < 24 by first | exact oq_514020d0 g4 b3.2 | omega) (by decide) ((htn _ (show (x : Int).toNat < 12 by first | (clear g2; omega) | omega) (show (((x : Int).toNat : Nat) : Int) < iI s 90 by first | (clear g2; omega) | omega)).2.2.2 _ (show ((((y - 1) : Int).toNat : Nat) : Int) < iC s 202 (x : Int).toNat by first | (clear g2; omega) | omega)) ?_)))))))
      have b9 : (0 : Int) ≤ (iC s (204 + (x : Int).toNat) ((y - 1) : Int).toNat) ∧ (iC s (204 + (x : Int).toNat) ((y - 1) : Int).toNat) ≤ 127 := rw_bd rw_230 I (show (x : Int).toNat < 12 by first | exact oq_9c5fa447 p0.2 | omega) (show ((y - 1) : Int).toNat < 24 by first | exact oq_4b444e5a g4 b3.2 | omega)
      refine d_lift (fun k ws X h => z_aload_n X (x := A 179) rfl (List.Mem.head _) h) (d_liftS (fun k s X h => s_getR X 179 rfl (by decide) rfl rfl h) (d_lift (fun k ws X h => z_load_n X (x := x) rfl (List.Mem.tail _ (List.Mem.head _)) h) (d_liftS (fun k s X h => z_aald X rw_230 rfl (by first | exact p0.1 | omega) (show x < 12 by first | exact oq_0ddfcfee p0.2 | omega) (by decide) h) (d_lift (fun k ws X h => z_load_n X (x := y) rfl (List.Mem.tail _ (List.Mem.tail _ (List.Mem.head _))) h) (d_ald2 rw_230 rfl (show (x : Int).toNat < 12 by first | exact oq_9c5fa447 p0.2 | omega) (by first | exact p1.1 | omega) (show y < 24 by first | exact oq_9cfd8ba8 g4 b3.2 | omega) (by decide) ((htn _ (show (x : Int).toNat < 12 by first | (clear g2; omega) | omega) (show (((x : Int).toNat : Nat) : Int) < iI s 90 by first | (clear g2; omega) | omega)).2.2.2 _ (show (((y : Int).toNat : Nat) : Int) < iC s 202 (x : Int).toNat by first | (clear g2; omega) | omega)) ?_)))))
      have b10 : (0 : Int) ≤ (iC s (204 + (x : Int).toNat) (y : Int).toNat) ∧ (iC s (204 + (x : Int).toNat) (y : Int).toNat) ≤ 127 := rw_bd rw_230 I (show (x : Int).toNat < 12 by first | exact oq_9c5fa447 p0.2 | omega) (show (y : Int).toNat < 24 by first | exact oq_bfe9ed15 g4 b3.2 | omega)
      refine d_callT (As := [.int (Int32.ofInt (iC s (204 + (x : Int).toNat) ((y - 1) : Int).toNat)), .int (Int32.ofInt (iC s (204 + (x : Int).toNat) (y : Int).toNat))]) (st := []) rfl rfl (d_stepOf G I (by first | exact ⟨b9.1, b9.2⟩ | omega) (by first | exact ⟨b10.1, b10.2⟩ | omega) (fun q h => hti q ((by decide : ∀ q ∈ ([] : List Nat), q ∈ ([] : List Nat)) q h)) (fun a h => hta a ((by decide : ∀ q ∈ ([] : List Nat), q ∈ ([] : List Nat)) a h))) ⟨rfl, rfl⟩ ⟨(show 6 + 1 ≤ 7 from oq_7ae2681c), (show 8 + (mNL (miB 225) + 11) + 100 ≤ 121 from oq_68e6451f)⟩ (Nat.le_of_ble_eq_true rfl) (by decide) (by decide) (fun ee s11 hq => ?_) (fun vv s11 hq => ?_)
      · obtain ⟨Is11, Fs11, e12, hv, hrs11, hps11⟩ := hq; cases hv
      obtain ⟨Is11, Fs11, e12, hv, hrs11, hps11⟩ := hq
      cases hv
      have Gs11 := fm_tq F Fs11 rfl rfl
      show DS l s0 D A dT 226 (rmN 226) [] [] (T) Q (T) 48 [(0, .ref (A 179)), (1, .int (Int32.ofInt x)), (2, .int (Int32.ofInt y))] [.int (Int32.ofInt e12)] s11
      refine d_lift (fun k ws X h => z_goto X (t := 72) rfl (by decide) h) ?_
      exact d_iret rfl rfl (Or.inl rfl) rfl (fun _ h => h) (hQ _ _ ⟨Is11, Gs11, e12, rfl, hrs11, by first | exact ⟨hps11.1, oq_b982df86 hps11.2⟩ | omega⟩)
  ·
    refine d_lift (fun k ws X h => z_bipush X rfl h) (d_lift (fun k ws X h => z_goto X (t := 72) rfl (by decide) h) ?_)
    exact d_iret rfl rfl (Or.inl rfl) rfl (fun _ h => h) (hQ _ _ ⟨I, F, 6, rfl, (by decide), by first | exact ⟨by decide, by decide⟩ | omega⟩)
set_option maxHeartbeats 16000000 in
theorem d_mostOf (G : GX l s0 D tys a0 dT) (I : Bd s) {x y : Int} (p0 : 0 ≤ x ∧ x ≤ 11) (p1 : 0 ≤ y ∧ y ≤ 23) {T : TT} (hti : ∀ q ∈ ([] : List Nat), T.1 q) (hta : ∀ a ∈ ([163, 164] : List Nat), ∀ j, j < (bA a).2.2 → T.2 a j) (hcn : ∀ j, j < 12 → ∀ k, k < 24 → T.2 (190 + j) k) : CD l s0 D A dT 220 (rmN 220) [] [] T (T) [.ref (A 179), .int (Int32.ofInt x), .int (Int32.ofInt y)] s (fun o t => Bd t ∧ Fm [] [] s t ∧ ∃ e, o = .inl (some (.int (Int32.ofInt e))) ∧ rng e ∧ (0 ≤ e ∧ e ≤ 50)) := by
  refine cd_of G (by decide) (Nat.le_of_ble_eq_true rfl) (fun Q hQ => ?_)
  have I0 := I
  show DS l s0 D A dT 220 (rmN 220) [] [] (T) Q (T) 0 [(0, .ref (A 179)), (1, .int (Int32.ofInt x)), (2, .int (Int32.ofInt y))] [] s
  have F : Fm [] [] s s := fm_rf _ _ s
  have L12 : ∀ (n : Nat) (t : PS) (xv yv nv c : Int), Bd t → Fm [] [] s t → ((0 ≤ xv ∧ xv ≤ 11) ∧ (0 ≤ yv ∧ yv ≤ 23) ∧ (0 ≤ nv ∧ nv ≤ 50) ∧ -2 ≤ c ∧ c ≤ 26) → (26 - c : Int).toNat < n → (∀ (t' : PS) (xv' yv' nv' c' : Int), Bd t' → Fm [] [] s t' → ((0 ≤ xv' ∧ xv' ≤ 11) ∧ (0 ≤ yv' ∧ yv' ≤ 23) ∧ (0 ≤ nv' ∧ nv' ≤ 50) ∧ -2 ≤ c' ∧ c' ≤ 26) → DS l s0 D A dT 220 (rmN 220) [] [] (T) Q (T) 65 [(0, .ref (A 179)), (1, .int (Int32.ofInt xv')), (2, .int (Int32.ofInt yv')), (3, .int (Int32.ofInt nv')), (4, .int (Int32.ofInt c'))] [] t') → DS l s0 D A dT 220 (rmN 220) [] [] (T) Q (T) 12 [(0, .ref (A 179)), (1, .int (Int32.ofInt xv)), (2, .int (Int32.ofInt yv)), (3, .int (Int32.ofInt nv)), (4, .int (Int32.ofInt c))] [] t := by
    intro n
    induction n with
    | zero =>
      intro t xv yv nv c I F hi hm kx
      exact absurd hm (Nat.not_lt_zero _)
    | succ n ih =>
      intro t xv yv nv c I F hi hm kx
      refine d_lift (fun k ws X h => z_load X (x := c) rfl (List.Mem.tail _ (List.Mem.tail _ (List.Mem.tail _ (List.Mem.tail _ (List.Mem.head _))))) h) (d_lift (fun k ws X h => z_load_n X (x := yv) rfl (List.Mem.tail _ (List.Mem.tail _ (List.Mem.head _))) h) (d_lift (fun k ws X h => z_aload_n X (x := A 179) rfl (List.Mem.head _) h) (d_liftS (fun k s X h => s_getR X 179 rfl (by decide) rfl rfl h) (d_lift (fun k ws X h => z_load_n X (x := xv) rfl (List.Mem.tail _ (List.Mem.head _)) h) (d_ald 186 rfl (by decide) rfl (by first | exact hi.1.1 | omega) (show xv < 12 by first | exact oq_0ddfcfee hi.1.2 | omega) (by decide) (hta 163 (by decide) _ (show (xv).toNat < 12 by first | exact oq_9c5fa447 hi.1.2 | omega)) ?_)))))
      have b1001 := bc_163 I (show (xv).toNat < 12 by first | exact oq_9c5fa447 hi.1.2 | omega)
      refine d_lift (fun k ws X h => z_add X rfl h) (d_br (bo_gt _ _) bx_gt (fun k ws X h1 h2 => z_icmp_gt X (t := 65) rfl (by decide) ⟨by first | exact oq_f81b6609 hi.2.2.2.1 | omega, by first | exact oq_9e7d853b hi.2.2.2.2 | omega⟩ ⟨by first | exact oq_34aac425 hi.2.1.1 b1001.1 | omega, by first | exact oq_b5a47671 hi.2.1.2 b1001.2 | omega⟩ h1 h2) (fun g1002 => ?_) (fun g1002 => ?_))
      ·
        refine d_lvs (lv := [(0, .ref (A 179)), (1, .int (Int32.ofInt xv)), (2, .int (Int32.ofInt yv)), (3, .int (Int32.ofInt nv)), (4, .int (Int32.ofInt c))]) (List.forall_mem_cons.mpr ⟨(List.Mem.head _), (List.forall_mem_cons.mpr ⟨(List.Mem.tail _ (List.Mem.head _)), (List.forall_mem_cons.mpr ⟨(List.Mem.tail _ (List.Mem.tail _ (List.Mem.head _))), (List.forall_mem_cons.mpr ⟨(List.Mem.tail _ (List.Mem.tail _ (List.Mem.tail _ (List.Mem.head _)))), (List.forall_mem_cons.mpr ⟨(List.Mem.tail _ (List.Mem.tail _ (List.Mem.tail _ (List.Mem.tail _ (List.Mem.head _))))), (fun q h => absurd h List.not_mem_nil)⟩)⟩)⟩)⟩)⟩) ?_
        exact kx _ xv yv nv c I F (by first | exact ⟨And.intro (hi.1.1) (hi.1.2), And.intro (hi.2.1.1) (hi.2.1.2), And.intro (hi.2.2.1.1) (hi.2.2.1.2), hi.2.2.2.1, hi.2.2.2.2⟩ | omega)
      ·
        refine d_lift (fun k ws X h => z_load X (x := c) rfl (List.Mem.tail _ (List.Mem.tail _ (List.Mem.tail _ (List.Mem.tail _ (List.Mem.head _))))) h) (d_lift (fun k ws X h => z_const X rfl h) (d_lift (fun k ws X h => z_bipush X rfl h) (d_callT (As := [.int (Int32.ofInt c), .int (Int32.ofInt 0), .int (Int32.ofInt 23)]) (st := []) rfl rfl (d_in G I (by first | exact ⟨oq_f81b6609 hi.2.2.2.1, oq_9e7d853b hi.2.2.2.2⟩ | omega) (by first | exact ⟨by decide, by decide⟩ | omega) (by first | exact ⟨by decide, by decide⟩ | omega) (fun q h => hti q ((by decide : ∀ q ∈ ([] : List Nat), q ∈ ([] : List Nat)) q h)) (fun a h => hta a ((by decide : ∀ q ∈ ([] : List Nat), q ∈ ([163, 164] : List Nat)) a h))) ⟨rfl, rfl⟩ ⟨(show 6 + 1 ≤ 7 from oq_7ae2681c), (show 8 + (mNL (miB 188) + 11) + 100 ≤ 122 from oq_91725b71)⟩ (Nat.le_of_ble_eq_true rfl) (by decide) (by decide) (fun ee s1003 hq => ?_) (fun vv s1003 hq => ?_))))
        · obtain ⟨Is1003, Fs1003, e1004, hv, hrs1003, hps1003⟩ := hq; cases hv
        obtain ⟨Is1003, Fs1003, e1004, hv, hrs1003, hps1003⟩ := hq
        cases hv
        have Gs1003 := fm_tq F Fs1003 rfl rfl
        show DS l s0 D A dT 220 (rmN 220) [] [] (T) Q (T) 33 [(0, .ref (A 179)), (1, .int (Int32.ofInt xv)), (2, .int (Int32.ofInt yv)), (3, .int (Int32.ofInt nv)), (4, .int (Int32.ofInt c))] [.int (Int32.ofInt e1004)] s1003
        refine d_br (bo_eq _ _) bx_eq (fun k ws X h1 h2 => z_if_eq X (t := 59) rfl (by decide) hrs1003 h1 h2) (fun g1005 => ?_) (fun g1005 => ?_)
        ·
          refine d_lift (fun k ws X h => z_inc X (x := c) (lv' := [(4, .int (Int32.ofInt (c + 1))), (0, .ref (A 179)), (1, .int (Int32.ofInt xv)), (2, .int (Int32.ofInt yv)), (3, .int (Int32.ofInt nv))]) rfl (by decide) (List.Mem.tail _ (List.Mem.tail _ (List.Mem.tail _ (List.Mem.tail _ (List.Mem.head _))))) (fun _ h => h) h) (d_lift (fun k ws X h => z_goto X (t := 12) rfl (by decide) h) (d_lvs (lv := [(0, .ref (A 179)), (1, .int (Int32.ofInt xv)), (2, .int (Int32.ofInt yv)), (3, .int (Int32.ofInt nv)), (4, .int (Int32.ofInt (c + 1)))]) (List.forall_mem_cons.mpr ⟨(List.Mem.tail _ (List.Mem.head _)), (List.forall_mem_cons.mpr ⟨(List.Mem.tail _ (List.Mem.tail _ (List.Mem.head _))), (List.forall_mem_cons.mpr ⟨(List.Mem.tail _ (List.Mem.tail _ (List.Mem.tail _ (List.Mem.head _)))), (List.forall_mem_cons.mpr ⟨(List.Mem.tail _ (List.Mem.tail _ (List.Mem.tail _ (List.Mem.tail _ (List.Mem.head _))))), (List.forall_mem_cons.mpr ⟨(List.Mem.head _), (fun q h => absurd h List.not_mem_nil)⟩)⟩)⟩)⟩)⟩) ?_))
          exact ih _ xv yv nv (c + 1) Is1003 Gs1003 (by first | exact ⟨And.intro (hi.1.1) (hi.1.2), And.intro (hi.2.1.1) (hi.2.1.2), And.intro (hi.2.2.1.1) (hi.2.2.1.2), oq_826c3458 hi.2.2.2.1, oq_78fc2d48 g1002 hi.2.1.2 b1001.2⟩ | omega) (by first | exact qk_me hm (by decide) (oq_5c7f6a1c g1002 hi.2.1.2 b1001.2) | omega) kx
        ·
          refine d_lift (fun k ws X h => z_aload_n X (x := A 179) rfl (List.Mem.head _) h) (d_liftS (fun k s X h => s_getR X 179 rfl (by decide) rfl rfl h) (d_lift (fun k ws X h => z_load_n X (x := xv) rfl (List.Mem.tail _ (List.Mem.head _)) h) (d_liftS (fun k s X h => z_aald X rw_215 rfl (by first | exact hi.1.1 | omega) (show xv < 12 by first | exact oq_0ddfcfee hi.1.2 | omega) (by decide) h) (d_lift (fun k ws X h => z_load X (x := c) rfl (List.Mem.tail _ (List.Mem.tail _ (List.Mem.tail _ (List.Mem.tail _ (List.Mem.head _))))) h) (d_ald2 rw_215 rfl (show (xv : Int).toNat < 12 by first | exact oq_9c5fa447 hi.1.2 | omega) (by first | exact oq_0159bb48 g1005 hps1003 | omega) (show c < 24 by first | exact oq_127752ee g1005 hps1003 | omega) (by decide) (hcn _ (show (xv : Int).toNat < 12 by first | (clear g1005 hps1003; omega) | (clear hps1003; omega) | omega) _ (show (c : Int).toNat < 24 by first | (clear g1005 hps1003; omega) | (clear hps1003; omega) | omega)) ?_)))))
          have b1006 : (0 : Int) ≤ (iC s1003 (190 + (xv : Int).toNat) (c : Int).toNat) ∧ (iC s1003 (190 + (xv : Int).toNat) (c : Int).toNat) ≤ 50 := rw_bd rw_215 Is1003 (show (xv : Int).toNat < 12 by first | exact oq_9c5fa447 hi.1.2 | omega) (show (c : Int).toNat < 24 by first | exact oq_200d9360 g1005 hps1003 | omega)
          refine d_lift (fun k ws X h => z_load_n X (x := nv) rfl (List.Mem.tail _ (List.Mem.tail _ (List.Mem.tail _ (List.Mem.head _)))) h) (d_br (bo_le _ _) bx_le (fun k ws X h1 h2 => z_icmp_le X (t := 59) rfl (by decide) (rng_to _) ⟨by first | exact oq_fa4e5087 hi.2.2.1.1 | omega, by first | exact oq_cbe526b3 hi.2.2.1.2 | omega⟩ h1 h2) (fun g1007 => ?_) (fun g1007 => ?_))
          ·
            refine d_lift (fun k ws X h => z_inc X (x := c) (lv' := [(4, .int (Int32.ofInt (c + 1))), (0, .ref (A 179)), (1, .int (Int32.ofInt xv)), (2, .int (Int32.ofInt yv)), (3, .int (Int32.ofInt nv))]) rfl (by decide) (List.Mem.tail _ (List.Mem.tail _ (List.Mem.tail _ (List.Mem.tail _ (List.Mem.head _))))) (fun _ h => h) h) (d_lift (fun k ws X h => z_goto X (t := 12) rfl (by decide) h) (d_lvs (lv := [(0, .ref (A 179)), (1, .int (Int32.ofInt xv)), (2, .int (Int32.ofInt yv)), (3, .int (Int32.ofInt nv)), (4, .int (Int32.ofInt (c + 1)))]) (List.forall_mem_cons.mpr ⟨(List.Mem.tail _ (List.Mem.head _)), (List.forall_mem_cons.mpr ⟨(List.Mem.tail _ (List.Mem.tail _ (List.Mem.head _))), (List.forall_mem_cons.mpr ⟨(List.Mem.tail _ (List.Mem.tail _ (List.Mem.tail _ (List.Mem.head _)))), (List.forall_mem_cons.mpr ⟨(List.Mem.tail _ (List.Mem.tail _ (List.Mem.tail _ (List.Mem.tail _ (List.Mem.head _))))), (List.forall_mem_cons.mpr ⟨(List.Mem.head _), (fun q h => absurd h List.not_mem_nil)⟩)⟩)⟩)⟩)⟩) ?_))
            exact ih _ xv yv nv (c + 1) Is1003 Gs1003 (by first | exact ⟨And.intro (hi.1.1) (hi.1.2), And.intro (hi.2.1.1) (hi.2.1.2), And.intro (hi.2.2.1.1) (hi.2.2.1.2), oq_826c3458 hi.2.2.2.1, oq_78fc2d48 g1002 hi.2.1.2 b1001.2⟩ | omega) (by first | exact qk_me hm (by decide) (oq_5c7f6a1c g1002 hi.2.1.2 b1001.2) | omega) kx
          ·
            refine d_lift (fun k ws X h => z_aload_n X (x := A 179) rfl (List.Mem.head _) h) (d_liftS (fun k s X h => s_getR X 179 rfl (by decide) rfl rfl h) (d_lift (fun k ws X h => z_load_n X (x := xv) rfl (List.Mem.tail _ (List.Mem.head _)) h) (d_liftS (fun k s X h => z_aald X rw_215 rfl (by first | exact hi.1.1 | omega) (show xv < 12 by first | exact oq_0ddfcfee hi.1.2 | omega) (by decide) h) (d_lift (fun k ws X h => z_load X (x := c) rfl (List.Mem.tail _ (List.Mem.tail _ (List.Mem.tail _ (List.Mem.tail _ (List.Mem.head _))))) h) (d_ald2 rw_215 rfl (show (xv : Int).toNat < 12 by first | exact oq_9c5fa447 hi.1.2 | omega) (by first | exact oq_0159bb48 g1005 hps1003 | omega) (show c < 24 by first | exact oq_127752ee g1005 hps1003 | omega) (by decide) (hcn _ (show (xv : Int).toNat < 12 by first | (clear g1005 hps1003; omega) | (clear hps1003; omega) | omega) _ (show (c : Int).toNat < 24 by first | (clear g1005 hps1003; omega) | (clear hps1003; omega) | omega)) ?_)))))
            have b1008 : (0 : Int) ≤ (iC s1003 (190 + (xv : Int).toNat) (c : Int).toNat) ∧ (iC s1003 (190 + (xv : Int).toNat) (c : Int).toNat) ≤ 50 := rw_bd rw_215 Is1003 (show (xv : Int).toNat < 12 by first | exact oq_9c5fa447 hi.1.2 | omega) (show (c : Int).toNat < 24 by first | exact oq_200d9360 g1005 hps1003 | omega)
            refine d_lift (fun k ws X h => z_store_n X (lv' := [(3, .int (Int32.ofInt (iC s1003 (190 + (xv : Int).toNat) (c : Int).toNat))), (0, .ref (A 179)), (1, .int (Int32.ofInt xv)), (2, .int (Int32.ofInt yv)), (4, .int (Int32.ofInt c))]) rfl (by decide) (fun _ h => h) h) (d_lift (fun k ws X h => z_inc X (x := c) (lv' := [(4, .int (Int32.ofInt (c + 1))), (3, .int (Int32.ofInt (iC s1003 (190 + (xv : Int).toNat) (c : Int).toNat))), (0, .ref (A 179)), (1, .int (Int32.ofInt xv)), (2, .int (Int32.ofInt yv))]) rfl (by decide) (List.Mem.tail _ (List.Mem.tail _ (List.Mem.tail _ (List.Mem.tail _ (List.Mem.head _))))) (fun _ h => h) h) (d_lift (fun k ws X h => z_goto X (t := 12) rfl (by decide) h) (d_lvs (lv := [(0, .ref (A 179)), (1, .int (Int32.ofInt xv)), (2, .int (Int32.ofInt yv)), (3, .int (Int32.ofInt (iC s1003 (190 + (xv : Int).toNat) (c : Int).toNat))), (4, .int (Int32.ofInt (c + 1)))]) (List.forall_mem_cons.mpr ⟨(List.Mem.tail _ (List.Mem.tail _ (List.Mem.head _))), (List.forall_mem_cons.mpr ⟨(List.Mem.tail _ (List.Mem.tail _ (List.Mem.tail _ (List.Mem.head _)))), (List.forall_mem_cons.mpr ⟨(List.Mem.tail _ (List.Mem.tail _ (List.Mem.tail _ (List.Mem.tail _ (List.Mem.head _))))), (List.forall_mem_cons.mpr ⟨(List.Mem.tail _ (List.Mem.head _)), (List.forall_mem_cons.mpr ⟨(List.Mem.head _), (fun q h => absurd h List.not_mem_nil)⟩)⟩)⟩)⟩)⟩) ?_)))
            exact ih _ xv yv (iC s1003 (190 + (xv : Int).toNat) (c : Int).toNat) (c + 1) Is1003 Gs1003 (by first | exact ⟨And.intro (hi.1.1) (hi.1.2), And.intro (hi.2.1.1) (hi.2.1.2), And.intro (b1008.1) (b1008.2), oq_826c3458 hi.2.2.2.1, oq_78fc2d48 g1002 hi.2.1.2 b1001.2⟩ | omega) (by first | exact qk_me hm (by decide) (oq_5c7f6a1c g1002 hi.2.1.2 b1001.2) | omega) kx
  refine d_lift (fun k ws X h => z_const X rfl h) (d_lift (fun k ws X h => z_store_n X (lv' := [(3, .int (Int32.ofInt 0)), (0, .ref (A 179)), (1, .int (Int32.ofInt x)), (2, .int (Int32.ofInt y))]) rfl (by decide) (fun _ h => h) h) (d_lift (fun k ws X h => z_load_n X (x := y) rfl (List.Mem.tail _ (List.Mem.tail _ (List.Mem.tail _ (List.Mem.head _)))) h) (d_lift (fun k ws X h => z_aload_n X (x := A 179) rfl (List.Mem.tail _ (List.Mem.head _)) h) (d_liftS (fun k s X h => s_getR X 179 rfl (by decide) rfl rfl h) (d_lift (fun k ws X h => z_load_n X (x := x) rfl (List.Mem.tail _ (List.Mem.tail _ (List.Mem.head _))) h) (d_ald 187 rfl (by decide) rfl (by first | exact p0.1 | omega) (show x < 12 by first | exact oq_0ddfcfee p0.2 | omega) (by decide) (hta 164 (by decide) _ (show (x).toNat < 12 by first | exact oq_9c5fa447 p0.2 | omega)) ?_))))))
  have b1 := bc_164 I (show (x).toNat < 12 by first | exact oq_9c5fa447 p0.2 | omega)
  refine d_lift (fun k ws X h => z_sub X rfl h) (d_lift (fun k ws X h => z_store X (lv' := [(4, .int (Int32.ofInt (y - (iC s 164 (x).toNat)))), (3, .int (Int32.ofInt 0)), (0, .ref (A 179)), (1, .int (Int32.ofInt x)), (2, .int (Int32.ofInt y))]) rfl (by decide) (fun _ h => h) h) (d_lvs (lv := [(0, .ref (A 179)), (1, .int (Int32.ofInt x)), (2, .int (Int32.ofInt y)), (3, .int (Int32.ofInt 0)), (4, .int (Int32.ofInt (y - (iC s 164 (x).toNat))))]) (List.forall_mem_cons.mpr ⟨(List.Mem.tail _ (List.Mem.tail _ (List.Mem.head _))), (List.forall_mem_cons.mpr ⟨(List.Mem.tail _ (List.Mem.tail _ (List.Mem.tail _ (List.Mem.head _)))), (List.forall_mem_cons.mpr ⟨(List.Mem.tail _ (List.Mem.tail _ (List.Mem.tail _ (List.Mem.tail _ (List.Mem.head _))))), (List.forall_mem_cons.mpr ⟨(List.Mem.tail _ (List.Mem.head _)), (List.forall_mem_cons.mpr ⟨(List.Mem.head _), (fun q h => absurd h List.not_mem_nil)⟩)⟩)⟩)⟩)⟩) (L12 ((26 - (y - (iC s 164 (x).toNat)) : Int).toNat + 1) s x y 0 (y - (iC s 164 (x).toNat)) I F (by first | exact ⟨And.intro (p0.1) (p0.2), And.intro (p1.1) (p1.2), And.intro (by decide) (by decide), oq_15fc5886 p1.1 b1.2, oq_0fb31b58 p1.2 b1.1⟩ | omega) (Nat.lt_succ_self _) ?_)))
  intro s2 x3 x4 x5 x6 Is2 Fs2 hs2
  refine d_lift (fun k ws X h => z_load_n X (x := x5) rfl (List.Mem.tail _ (List.Mem.tail _ (List.Mem.tail _ (List.Mem.head _)))) h) ?_
  exact d_iret rfl rfl (Or.inl rfl) rfl (fun _ h => h) (hQ _ _ ⟨Is2, Fs2, x5, rfl, ⟨by first | exact oq_fa4e5087 hs2.2.2.1.1 | omega, by first | exact oq_cbe526b3 hs2.2.2.1.2 | omega⟩, by first | exact ⟨hs2.2.2.1.1, hs2.2.2.1.2⟩ | omega⟩)
set_option maxHeartbeats 16000000 in
theorem d_numbersIn (G : GX l s0 D tys a0 dT) (I : Bd s) {x : Int} (p0 : 0 ≤ x ∧ x ≤ 23) {T : TT} (hti : ∀ q ∈ ([90] : List Nat), T.1 q) (hta : ∀ a ∈ ([163, 164] : List Nat), ∀ j, j < (bA a).2.2 → T.2 a j) (hcn : ∀ j, j < 12 → ∀ k, k < 24 → T.2 (190 + j) k) : CD l s0 D A dT 224 (rmN 224) [] [203] T (TU T 203 (iI s 90)) [.ref (A 179), .int (Int32.ofInt x)] s (fun o t => Bd t ∧ Fm [] [203] s t ∧ o = .inl none ∧ (True)) := by
  refine cd_of G (by decide) (Nat.le_of_ble_eq_true rfl) (fun Q hQ => ?_)
  have I0 := I
  show DS l s0 D A dT 224 (rmN 224) [] [203] (TU T 203 (iI s 90)) Q (T) 0 [(0, .ref (A 179)), (1, .int (Int32.ofInt x))] [] s
  have F : Fm [] [203] s s := fm_rf _ _ s
  have b1 := bi_90 I
  have L2 : ∀ (n : Nat) (t : PS) (xv c : Int), Bd t → Fm [] [203] s t → ((0 ≤ xv ∧ xv ≤ 23) ∧ 0 ≤ c ∧ c ≤ 12) → (12 - c : Int).toNat < n → (∀ (t' : PS) (xv' c' : Int), Bd t' → Fm [] [203] s t' → (iI s 90 ≤ c') → DS l s0 D A dT 224 (rmN 224) [] [203] (TU T 203 (iI s 90)) Q (TU T 203 c') 28 [(0, .ref (A 179)), (1, .int (Int32.ofInt xv')), (2, .int (Int32.ofInt c'))] [] t') → DS l s0 D A dT 224 (rmN 224) [] [203] (TU T 203 (iI s 90)) Q (TU T 203 c) 2 [(0, .ref (A 179)), (1, .int (Int32.ofInt xv)), (2, .int (Int32.ofInt c))] [] t := by
    intro n
    induction n with
    | zero =>
      intro t xv c I F hi hm kx
      exact absurd hm (Nat.not_lt_zero _)
    | succ n ih =>
      intro t xv c I F hi hm kx
      have b1001 := bi_90 I
      have hta1002 : ∀ a ∈ ([163, 164] : List Nat), ∀ j, j < (bA a).2.2 → (TU T 203 c).2 a j := fun a h j hj => Or.inr (hta a h j hj)
      refine d_lift (fun k ws X h => z_load_n X (x := c) rfl (List.Mem.tail _ (List.Mem.tail _ (List.Mem.head _))) h) (d_lift (fun k ws X h => z_aload_n X (x := A 179) rfl (List.Mem.head _) h) (d_getI 179 rfl (by decide) rfl rfl (hti 90 (by decide)) ?_))
      have b1003 := bi_90 I
      have q1004 : iI t 90 = iI s 90 := fm_iq F rfl
      refine d_br (bo_ge _ _) bx_ge (fun k ws X h1 h2 => z_icmp_ge X (t := 28) rfl (by decide) ⟨by first | exact oq_fa4e5087 hi.2.1 | omega, by first | exact oq_78843a64 hi.2.2 | omega⟩ (rng_to _) h1 h2) (fun g1005 => ?_) (fun g1005 => ?_)
      ·
        refine d_lvs (lv := [(0, .ref (A 179)), (1, .int (Int32.ofInt xv)), (2, .int (Int32.ofInt c))]) (List.forall_mem_cons.mpr ⟨(List.Mem.head _), (List.forall_mem_cons.mpr ⟨(List.Mem.tail _ (List.Mem.head _)), (List.forall_mem_cons.mpr ⟨(List.Mem.tail _ (List.Mem.tail _ (List.Mem.head _))), (fun q h => absurd h List.not_mem_nil)⟩)⟩)⟩) ?_
        exact kx _ xv c I F (by first | exact oq_acf76229 g1005 q1004 | omega)
      ·
        refine d_lift (fun k ws X h => z_aload_n X (x := A 179) rfl (List.Mem.head _) h) (d_liftS (fun k s X h => s_getR X 179 rfl (by decide) rfl rfl h) (d_lift (fun k ws X h => z_load_n X (x := c) rfl (List.Mem.tail _ (List.Mem.tail _ (List.Mem.head _))) h) (d_lift (fun k ws X h => z_aload_n X (x := A 179) rfl (List.Mem.head _) h) (d_lift (fun k ws X h => z_load_n X (x := c) rfl (List.Mem.tail _ (List.Mem.tail _ (List.Mem.head _))) h) (d_lift (fun k ws X h => z_load_n X (x := xv) rfl (List.Mem.tail _ (List.Mem.head _)) h) (d_callV 179 (As := [.int (Int32.ofInt c), .int (Int32.ofInt xv)]) (st := [.int (Int32.ofInt c), .ref (A 229)]) rfl rfl (by decide) rfl (d_mostOf (T := TU T 203 c) G I (by first | exact ⟨hi.2.1, oq_e4d7f3c5 g1005 b1003.2⟩ | omega) (by first | exact ⟨hi.1.1, hi.1.2⟩ | omega) (fun q h => hti q ((by decide : ∀ q ∈ ([] : List Nat), q ∈ ([90] : List Nat)) q h)) (fun a h => hta1002 a ((by decide : ∀ q ∈ ([163, 164] : List Nat), q ∈ ([163, 164] : List Nat)) a h)) (fun j hj k hk => (Or.inr (hcn j hj k hk)))) ⟨rfl, rfl⟩ ⟨(show 7 + 1 ≤ 8 from oq_519c1fd2), (show 8 + (mNL (miB 220) + 11) + 122 ≤ 146 from oq_bddf4d11)⟩ (Nat.le_of_ble_eq_true rfl) (by decide) (by decide) (fun ee s1006 hq => ?_) (fun vv s1006 hq => ?_)))))))
        · obtain ⟨Is1006, Fs1006, e1007, hv, hrs1006, hps1006⟩ := hq; cases hv
        obtain ⟨Is1006, Fs1006, e1007, hv, hrs1006, hps1006⟩ := hq
        cases hv
        have Gs1006 := fm_tq F Fs1006 rfl rfl
        have ws1006_90 : iI s1006 90 = iI t 90 := fm_iq Fs1006 rfl
        show DS l s0 D A dT 224 (rmN 224) [] [203] (TU T 203 (iI s 90)) Q (TU T 203 c) 21 [(0, .ref (A 179)), (1, .int (Int32.ofInt xv)), (2, .int (Int32.ofInt c))] [.int (Int32.ofInt e1007), .int (Int32.ofInt c), .ref (A 229)] s1006
        refine d_ast 229 rfl (by decide) rfl (by first | exact hi.2.1 | omega) (show c < 12 by first | exact oq_f36e82a8 g1005 b1003.2 | omega) (by decide) (show 203 ∈ _ by decide) (show (0 : Int) ≤ e1007 ∧ e1007 ≤ 50 by first | exact ⟨hps1006.1, hps1006.2⟩ | omega) hrs1006 (ds_gen (fun s1008 hs1008 => ?_))
        have Is1008 : Bd s1008 := eqB hs1008 (bd_C Is1006 (show (0 : Int) ≤ e1007 ∧ e1007 ≤ 50 by first | exact ⟨hps1006.1, hps1006.2⟩ | omega) hrs1006)
        have Fs1008 := eqF hs1008 (fm_C Gs1006 (inl_ok (a := 203) rfl))
        have ws1008_90 : iI s1008 90 = iI s1006 90 := eqI hs1008 rfl
        refine d_lift (fun k ws X h => z_inc X (x := c) (lv' := [(2, .int (Int32.ofInt (c + 1))), (0, .ref (A 179)), (1, .int (Int32.ofInt xv))]) rfl (by decide) (List.Mem.tail _ (List.Mem.tail _ (List.Mem.head _))) (fun _ h => h) h) (d_lift (fun k ws X h => z_goto X (t := 2) rfl (by decide) h) (d_lvs (lv := [(0, .ref (A 179)), (1, .int (Int32.ofInt xv)), (2, .int (Int32.ofInt (c + 1)))]) (List.forall_mem_cons.mpr ⟨(List.Mem.tail _ (List.Mem.head _)), (List.forall_mem_cons.mpr ⟨(List.Mem.tail _ (List.Mem.tail _ (List.Mem.head _))), (List.forall_mem_cons.mpr ⟨(List.Mem.head _), (fun q h => absurd h List.not_mem_nil)⟩)⟩)⟩) (d_mono (T' := TU T 203 (c + 1)) (fun _ h => h) (TU_s (by omega)) ?_)))
        exact ih _ xv (c + 1) Is1008 Fs1008 (by first | exact ⟨And.intro (hi.1.1) (hi.1.2), oq_54f49eb5 hi.2.1, oq_4dae995e g1005 b1003.2⟩ | omega) (by first | exact qk_me hm (by decide) (oq_b575e8c1 g1005 b1003.2) | omega) kx
  refine d_lift (fun k ws X h => z_const X rfl h) (d_lift (fun k ws X h => z_store_n X (lv' := [(2, .int (Int32.ofInt 0)), (0, .ref (A 179)), (1, .int (Int32.ofInt x))]) rfl (by decide) (fun _ h => h) h) (d_lvs (lv := [(0, .ref (A 179)), (1, .int (Int32.ofInt x)), (2, .int (Int32.ofInt 0))]) (List.forall_mem_cons.mpr ⟨(List.Mem.tail _ (List.Mem.head _)), (List.forall_mem_cons.mpr ⟨(List.Mem.tail _ (List.Mem.tail _ (List.Mem.head _))), (List.forall_mem_cons.mpr ⟨(List.Mem.head _), (fun q h => absurd h List.not_mem_nil)⟩)⟩)⟩) (d_mono (T' := TU T 203 0) (fun _ h => h) (TU_0 (by omega)) (L2 ((12 - 0 : Int).toNat + 1) s x 0 I F (by first | exact ⟨And.intro (p0.1) (p0.2), by decide, by decide⟩ | omega) (Nat.lt_succ_self _) ?_))))
  intro s2 x3 x4 Is2 Fs2 hs2
  have b5 := bi_90 Is2
  exact d_vret rfl rfl (fun _ h => AGr_mono h (fun _ h => h) (TU_le (by omega))) (hQ _ _ ⟨Is2, Fs2, rfl, trivial⟩)
set_option maxHeartbeats 16000000 in
theorem d_readsAt (G : GX l s0 D tys a0 dT) (I : Bd s) {x : Int} (p0 : 0 ≤ x ∧ x ≤ 380) {T : TT} (hti : ∀ q ∈ ([82] : List Nat), T.1 q) (hta : ∀ a ∈ ([] : List Nat), ∀ j, j < (bA a).2.2 → T.2 a j) : CD l s0 D A dT 216 (rmN 216) [81, 75, 77, 78, 79] [] T (TI (TI (TI (TI (TI T 81) 75) 77) 78) 79) [.ref (A 179), .int (Int32.ofInt x)] s (fun o t => Bd t ∧ Fm [81, 75, 77, 78, 79] [] s t ∧ o = .inl none ∧ (iI t 77 = x ∧ iI t 78 = 0 ∧ iI t 79 = 0)) := by
  refine cd_of G (by decide) (Nat.le_of_ble_eq_true rfl) (fun Q hQ => ?_)
  have I0 := I
  show DS l s0 D A dT 216 (rmN 216) [81, 75, 77, 78, 79] [] (TI (TI (TI (TI (TI T 81) 75) 77) 78) 79) Q (T) 0 [(0, .ref (A 179)), (1, .int (Int32.ofInt x))] [] s
  have F : Fm [81, 75, 77, 78, 79] [] s s := fm_rf _ _ s
  have b1 := bi_77 I
  have b2 := bi_78 I
  have b3 := bi_79 I
  refine d_lift (fun k ws X h => z_aload_n X (x := A 179) rfl (List.Mem.head _) h) (d_lift (fun k ws X h => z_const X rfl h) (d_putI 179 rfl (by decide) rfl rfl (by decide) rfl rfl rfl (show 81 ∈ _ by decide) (show (0 : Int) ≤ 1 ∧ 1 ≤ 1 by first | exact ⟨by decide, by decide⟩ | omega) (by decide) ?_))
  have hti4 : ∀ q ∈ [81, 82], (TI (T) 81).1 q := hti_g hti
  refine ds_gen (fun s5 hs5 => ?_)
  have Is5 : Bd s5 := eqB hs5 (bd_I I (show (0 : Int) ≤ 1 ∧ 1 ≤ 1 by first | exact ⟨by decide, by decide⟩ | omega) (by decide))
  have Fs5 := eqF hs5 (fm_I F (inl_ok (a := 81) rfl))
  have vs5 : iI s5 81 = 1 := eqI hs5 (iI_u (by decide))
  have ws5_77 : iI s5 77 = iI s 77 := eqI hs5 rfl
  have ws5_78 : iI s5 78 = iI s 78 := eqI hs5 rfl
  have ws5_79 : iI s5 79 = iI s 79 := eqI hs5 rfl
  refine d_lift (fun k ws X h => z_aload_n X (x := A 179) rfl (List.Mem.head _) h) (d_lift (fun k ws X h => z_aload_n X (x := A 179) rfl (List.Mem.head _) h) (d_getI 179 rfl (by decide) rfl rfl (hti4 82 (by decide)) ?_))
  have b6 := bi_82 Is5
  refine d_putI 179 rfl (by decide) rfl rfl (by decide) rfl rfl rfl (show 75 ∈ _ by decide) (show (0 : Int) ≤ (iI s5 82) ∧ (iI s5 82) ≤ 200 by first | exact ⟨b6.1, b6.2⟩ | omega) (rng_to _) ?_
  have hti7 : ∀ q ∈ [75, 81, 82], (TI (TI (T) 81) 75).1 q := hti_g hti4
  refine ds_gen (fun s8 hs8 => ?_)
  have Is8 : Bd s8 := eqB hs8 (bd_I Is5 (show (0 : Int) ≤ (iI s5 82) ∧ (iI s5 82) ≤ 200 by first | exact ⟨b6.1, b6.2⟩ | omega) (rng_to _))
  have Fs8 := eqF hs8 (fm_I Fs5 (inl_ok (a := 75) rfl))
  have vs8 : iI s8 75 = (iI s5 82) := eqI hs8 (iI_u (rng_to _))
  have ws8_77 : iI s8 77 = iI s5 77 := eqI hs8 rfl
  have ws8_78 : iI s8 78 = iI s5 78 := eqI hs8 rfl
  have ws8_79 : iI s8 79 = iI s5 79 := eqI hs8 rfl
  refine d_lift (fun k ws X h => z_aload_n X (x := A 179) rfl (List.Mem.head _) h) (d_lift (fun k ws X h => z_load_n X (x := x) rfl (List.Mem.tail _ (List.Mem.head _)) h) (d_putI 179 rfl (by decide) rfl rfl (by decide) rfl rfl rfl (show 77 ∈ _ by decide) (show (0 : Int) ≤ x ∧ x ≤ 400 by first | exact ⟨p0.1, oq_6c55e2f6 p0.2⟩ | omega) ⟨by first | exact oq_fa4e5087 p0.1 | omega, by first | exact oq_5d668942 p0.2 | omega⟩ ?_))
  have hti9 : ∀ q ∈ [77, 75, 81, 82], (TI (TI (TI (T) 81) 75) 77).1 q := hti_g hti7
  refine ds_gen (fun s10 hs10 => ?_)
  have Is10 : Bd s10 := eqB hs10 (bd_I Is8 (show (0 : Int) ≤ x ∧ x ≤ 400 by first | exact ⟨p0.1, oq_6c55e2f6 p0.2⟩ | omega) ⟨by first | exact oq_fa4e5087 p0.1 | omega, by first | exact oq_5d668942 p0.2 | omega⟩)
  have Fs10 := eqF hs10 (fm_I Fs8 (inl_ok (a := 77) rfl))
  have vs10 : iI s10 77 = x := eqI hs10 (iI_u ⟨by first | exact oq_fa4e5087 p0.1 | omega, by first | exact oq_5d668942 p0.2 | omega⟩)
  have ws10_78 : iI s10 78 = iI s8 78 := eqI hs10 rfl
  have ws10_79 : iI s10 79 = iI s8 79 := eqI hs10 rfl
  refine d_lift (fun k ws X h => z_aload_n X (x := A 179) rfl (List.Mem.head _) h) (d_lift (fun k ws X h => z_const X rfl h) (d_putI 179 rfl (by decide) rfl rfl (by decide) rfl rfl rfl (show 78 ∈ _ by decide) (show (0 : Int) ≤ 0 ∧ 0 ≤ 8 by first | exact ⟨by decide, by decide⟩ | omega) (by decide) ?_))
  have hti11 : ∀ q ∈ [78, 77, 75, 81, 82], (TI (TI (TI (TI (T) 81) 75) 77) 78).1 q := hti_g hti9
  refine ds_gen (fun s12 hs12 => ?_)
  have Is12 : Bd s12 := eqB hs12 (bd_I Is10 (show (0 : Int) ≤ 0 ∧ 0 ≤ 8 by first | exact ⟨by decide, by decide⟩ | omega) (by decide))
  have Fs12 := eqF hs12 (fm_I Fs10 (inl_ok (a := 78) rfl))
  have vs12 : iI s12 78 = 0 := eqI hs12 (iI_u (by decide))
  have ws12_77 : iI s12 77 = iI s10 77 := eqI hs12 rfl
  have ws12_79 : iI s12 79 = iI s10 79 := eqI hs12 rfl
  refine d_lift (fun k ws X h => z_aload_n X (x := A 179) rfl (List.Mem.head _) h) (d_lift (fun k ws X h => z_const X rfl h) (d_putI 179 rfl (by decide) rfl rfl (by decide) rfl rfl rfl (show 79 ∈ _ by decide) (show (0 : Int) ≤ 0 ∧ 0 ≤ 9 by first | exact ⟨by decide, by decide⟩ | omega) (by decide) ?_))
  have hti13 : ∀ q ∈ [79, 78, 77, 75, 81, 82], (TI (TI (TI (TI (TI (T) 81) 75) 77) 78) 79).1 q := hti_g hti11
  refine ds_gen (fun s14 hs14 => ?_)
  have Is14 : Bd s14 := eqB hs14 (bd_I Is12 (show (0 : Int) ≤ 0 ∧ 0 ≤ 9 by first | exact ⟨by decide, by decide⟩ | omega) (by decide))
  have Fs14 := eqF hs14 (fm_I Fs12 (inl_ok (a := 79) rfl))
  have vs14 : iI s14 79 = 0 := eqI hs14 (iI_u (by decide))
  have ws14_77 : iI s14 77 = iI s12 77 := eqI hs14 rfl
  have ws14_78 : iI s14 78 = iI s12 78 := eqI hs14 rfl
  exact d_vret rfl rfl (fun _ h => h) (hQ _ _ ⟨Is14, Fs14, rfl, by first | exact ⟨oq_d0d2714e ws14_77 vs10 ws12_77, oq_e5e5d3d6 ws14_78 vs12, vs14⟩ | omega⟩)
set_option maxHeartbeats 16000000 in
theorem d_hasCells (G : GX l s0 D tys a0 dT) (I : Bd s) {x : Int} (p0 : rng x) {T : TT} (hti : ∀ q ∈ ([] : List Nat), T.1 q) (hta : ∀ a ∈ ([228] : List Nat), ∀ j, j < (bA a).2.2 → T.2 a j) : CD l s0 D A dT 233 (rmN 233) [] [] T (T) [.ref (A 179), .int (Int32.ofInt x)] s (fun o t => Bd t ∧ Fm [] [] s t ∧ ∃ e, o = .inl (some (.int (Int32.ofInt e))) ∧ rng e ∧ (e = 0 ∨ e = 1)) := by
  refine cd_of G (by decide) (Nat.le_of_ble_eq_true rfl) (fun Q hQ => ?_)
  have I0 := I
  show DS l s0 D A dT 233 (rmN 233) [] [] (T) Q (T) 0 [(0, .ref (A 179)), (1, .int (Int32.ofInt x))] [] s
  have F : Fm [] [] s s := fm_rf _ _ s
  have L2 : ∀ (n : Nat) (t : PS) (x1 c : Int), Bd t → Fm [] [] s t → (rng x1 ∧ 0 ≤ c ∧ c ≤ 128) → (128 - c : Int).toNat < n → (∀ (t' : PS) (x1' c' : Int), Bd t' → Fm [] [] s t' → (rng x1' ∧ 0 ≤ c' ∧ c' ≤ 128) → DS l s0 D A dT 233 (rmN 233) [] [] (T) Q (T) 27 [(0, .ref (A 179)), (1, .int (Int32.ofInt x1')), (2, .int (Int32.ofInt c'))] [] t') → DS l s0 D A dT 233 (rmN 233) [] [] (T) Q (T) 2 [(0, .ref (A 179)), (1, .int (Int32.ofInt x1)), (2, .int (Int32.ofInt c))] [] t := by
    intro n
    induction n with
    | zero =>
      intro t x1 c I F hi hm kx
      exact absurd hm (Nat.not_lt_zero _)
    | succ n ih =>
      intro t x1 c I F hi hm kx
      refine d_lift (fun k ws X h => z_load_n X (x := c) rfl (List.Mem.tail _ (List.Mem.tail _ (List.Mem.head _))) h) (d_lift (fun k ws X h => z_sipush X rfl h) (d_br (bo_ge _ _) bx_ge (fun k ws X h1 h2 => z_icmp_ge X (t := 27) rfl (by decide) ⟨by first | exact oq_fa4e5087 hi.2.1 | omega, by first | exact oq_4ee82282 hi.2.2 | omega⟩ (by decide) h1 h2) (fun g1001 => ?_) (fun g1001 => ?_)))
      ·
        refine d_lvs (lv := [(0, .ref (A 179)), (1, .int (Int32.ofInt x1)), (2, .int (Int32.ofInt c))]) (List.forall_mem_cons.mpr ⟨(List.Mem.head _), (List.forall_mem_cons.mpr ⟨(List.Mem.tail _ (List.Mem.head _)), (List.forall_mem_cons.mpr ⟨(List.Mem.tail _ (List.Mem.tail _ (List.Mem.head _))), (fun q h => absurd h List.not_mem_nil)⟩)⟩)⟩) ?_
        exact kx _ x1 c I F (by first | exact ⟨And.intro (hi.1.1) (hi.1.2), hi.2.1, hi.2.2⟩ | omega)
      ·
        refine d_lift (fun k ws X h => z_aload_n X (x := A 179) rfl (List.Mem.head _) h) (d_liftS (fun k s X h => s_getR X 179 rfl (by decide) rfl rfl h) (d_lift (fun k ws X h => z_load_n X (x := c) rfl (List.Mem.tail _ (List.Mem.tail _ (List.Mem.head _))) h) (d_ald 256 rfl (by decide) rfl (by first | exact hi.2.1 | omega) (show c < 128 by first | exact g1001 | omega) (by decide) (hta 228 (by decide) _ (show (c).toNat < 128 by first | exact oq_afb89947 g1001 | omega)) ?_)))
        have b1002 := bc_228 I (show (c).toNat < 128 by first | exact oq_afb89947 g1001 | omega)
        refine d_lift (fun k ws X h => z_load_n X (x := x1) rfl (List.Mem.tail _ (List.Mem.head _)) h) (d_br (bo_ne _ _) bx_ne (fun k ws X h1 h2 => z_icmp_ne X (t := 21) rfl (by decide) (rng_to _) ⟨by first | exact hi.1.1 | omega, by first | exact hi.1.2 | omega⟩ h1 h2) (fun g1003 => ?_) (fun g1003 => ?_))
        ·
          refine d_lift (fun k ws X h => z_inc X (x := c) (lv' := [(2, .int (Int32.ofInt (c + 1))), (0, .ref (A 179)), (1, .int (Int32.ofInt x1))]) rfl (by decide) (List.Mem.tail _ (List.Mem.tail _ (List.Mem.head _))) (fun _ h => h) h) (d_lift (fun k ws X h => z_goto X (t := 2) rfl (by decide) h) (d_lvs (lv := [(0, .ref (A 179)), (1, .int (Int32.ofInt x1)), (2, .int (Int32.ofInt (c + 1)))]) (List.forall_mem_cons.mpr ⟨(List.Mem.tail _ (List.Mem.head _)), (List.forall_mem_cons.mpr ⟨(List.Mem.tail _ (List.Mem.tail _ (List.Mem.head _))), (List.forall_mem_cons.mpr ⟨(List.Mem.head _), (fun q h => absurd h List.not_mem_nil)⟩)⟩)⟩) ?_))
          exact ih _ x1 (c + 1) I F (by first | exact ⟨And.intro (hi.1.1) (hi.1.2), oq_54f49eb5 hi.2.1, oq_d2afb425 g1001⟩ | omega) (by first | exact qk_me hm (by decide) (oq_c268b7bd g1001) | omega) kx
        ·
          refine d_lift (fun k ws X h => z_const X rfl h) ?_
          exact d_iret rfl (nar_ret (by first | exact Or.inr (by decide) | omega)) (Or.inr rfl) rfl (fun _ h => h) (hQ _ _ ⟨I, F, 1, rfl, (by decide), by first | exact Or.inr (by decide) | omega⟩)
  refine d_lift (fun k ws X h => z_const X rfl h) (d_lift (fun k ws X h => z_store_n X (lv' := [(2, .int (Int32.ofInt 0)), (0, .ref (A 179)), (1, .int (Int32.ofInt x))]) rfl (by decide) (fun _ h => h) h) (d_lvs (lv := [(0, .ref (A 179)), (1, .int (Int32.ofInt x)), (2, .int (Int32.ofInt 0))]) (List.forall_mem_cons.mpr ⟨(List.Mem.tail _ (List.Mem.head _)), (List.forall_mem_cons.mpr ⟨(List.Mem.tail _ (List.Mem.tail _ (List.Mem.head _))), (List.forall_mem_cons.mpr ⟨(List.Mem.head _), (fun q h => absurd h List.not_mem_nil)⟩)⟩)⟩) (L2 ((128 - 0 : Int).toNat + 1) s x 0 I F (by first | exact ⟨And.intro (p0.1) (p0.2), by decide, by decide⟩ | omega) (Nat.lt_succ_self _) ?_)))
  intro s1 x2 x3 Is1 Fs1 hs1
  refine d_lift (fun k ws X h => z_const X rfl h) ?_
  exact d_iret rfl (nar_ret (by first | exact Or.inl (by decide) | omega)) (Or.inr rfl) rfl (fun _ h => h) (hQ _ _ ⟨Is1, Fs1, 0, rfl, (by decide), by first | exact Or.inl (by decide) | omega⟩)
set_option maxHeartbeats 16000000 in
theorem d_groupOf (G : GX l s0 D tys a0 dT) (I : Bd s) {x y : Int} (p0 : 0 ≤ x ∧ x ≤ 5) (p1 : 0 ≤ y ∧ y ≤ 7) {T : TT} (hti : ∀ q ∈ ([] : List Nat), T.1 q) (hta : ∀ a ∈ ([237] : List Nat), ∀ j, j < (bA a).2.2 → T.2 a j) : CD l s0 D A dT 265 (rmN 265) [] [] T (T) [.ref (A 179), .int (Int32.ofInt x), .int (Int32.ofInt y)] s (fun o t => Bd t ∧ Fm [] [] s t ∧ ∃ e, o = .inl (some (.int (Int32.ofInt e))) ∧ rng e ∧ (0 ≤ e ∧ e ≤ 7)) := by
  refine cd_of G (by decide) (Nat.le_of_ble_eq_true rfl) (fun Q hQ => ?_)
  have I0 := I
  show DS l s0 D A dT 265 (rmN 265) [] [] (T) Q (T) 0 [(0, .ref (A 179)), (1, .int (Int32.ofInt x)), (2, .int (Int32.ofInt y))] [] s
  have F : Fm [] [] s s := fm_rf _ _ s
  refine d_lift (fun k ws X h => z_aload_n X (x := A 179) rfl (List.Mem.head _) h) (d_liftS (fun k s X h => s_getR X 179 rfl (by decide) rfl rfl h) (d_lift (fun k ws X h => z_load_n X (x := x) rfl (List.Mem.tail _ (List.Mem.head _)) h) (d_ald 265 rfl (by decide) rfl (by first | exact p0.1 | omega) (show x < 6 by first | exact oq_9207f8f8 p0.2 | omega) (by decide) (hta 237 (by decide) _ (show (x).toNat < 6 by first | exact oq_78f9cd89 p0.2 | omega)) ?_)))
  have b1 := bc_237 I (show (x).toNat < 6 by first | exact oq_78f9cd89 p0.2 | omega)
  refine d_lift (fun k ws X h => z_const X rfl h) (d_lift (fun k ws X h => z_load_n X (x := y) rfl (List.Mem.tail _ (List.Mem.tail _ (List.Mem.head _))) h) (d_lift (fun k ws X h => z_mul X rfl h) (d_lift (fun k ws X h => z_bshr X rfl h) (d_any (fun y2 hy2 => ?_)))))
  refine d_lift (fun k ws X h => z_bipush X rfl h) (d_andm rfl (by decide) (by decide) (fun y3 hy3 gy3 => ?_))
  exact d_iret rfl rfl (Or.inl rfl) rfl (fun _ h => h) (hQ _ _ ⟨I, F, y3, rfl, ⟨by first | exact oq_fa4e5087 hy3 | omega, by first | exact oq_0e78ca7d gy3 | omega⟩, by first | exact ⟨hy3, gy3⟩ | omega⟩)
set_option maxHeartbeats 16000000 in
theorem d_setOf (G : GX l s0 D tys a0 dT) (I : Bd s) {x : Int} (p0 : rng x) {T : TT} (hti : ∀ q ∈ ([] : List Nat), T.1 q) (hta : ∀ a ∈ ([228] : List Nat), ∀ j, j < (bA a).2.2 → T.2 a j) : CD l s0 D A dT 230 (rmN 230) [] [230] T (TU T 230 128) [.ref (A 179), .int (Int32.ofInt x)] s (fun o t => Bd t ∧ Fm [] [230] s t ∧ o = .inl none ∧ (True)) := by
  refine cd_of G (by decide) (Nat.le_of_ble_eq_true rfl) (fun Q hQ => ?_)
  have I0 := I
  show DS l s0 D A dT 230 (rmN 230) [] [230] (TU T 230 128) Q (T) 0 [(0, .ref (A 179)), (1, .int (Int32.ofInt x))] [] s
  have F : Fm [] [230] s s := fm_rf _ _ s
  have L2 : ∀ (n : Nat) (t : PS) (x1 c : Int), Bd t → Fm [] [230] s t → (rng x1 ∧ 0 ≤ c ∧ c ≤ 128) → (128 - c : Int).toNat < n → (∀ (t' : PS) (x1' c' : Int), Bd t' → Fm [] [230] s t' → (128 ≤ c') → DS l s0 D A dT 230 (rmN 230) [] [230] (TU T 230 128) Q (TU T 230 c') 36 [(0, .ref (A 179)), (1, .int (Int32.ofInt x1')), (2, .int (Int32.ofInt c'))] [] t') → DS l s0 D A dT 230 (rmN 230) [] [230] (TU T 230 128) Q (TU T 230 c) 2 [(0, .ref (A 179)), (1, .int (Int32.ofInt x1)), (2, .int (Int32.ofInt c))] [] t := by
    intro n
    induction n with
    | zero =>
      intro t x1 c I F hi hm kx
      exact absurd hm (Nat.not_lt_zero _)
    | succ n ih =>
      intro t x1 c I F hi hm kx
      have hta1001 : ∀ a ∈ ([228] : List Nat), ∀ j, j < (bA a).2.2 → (TU T 230 c).2 a j := fun a h j hj => Or.inr (hta a h j hj)
      refine d_lift (fun k ws X h => z_load_n X (x := c) rfl (List.Mem.tail _ (List.Mem.tail _ (List.Mem.head _))) h) (d_lift (fun k ws X h => z_sipush X rfl h) (d_br (bo_ge _ _) bx_ge (fun k ws X h1 h2 => z_icmp_ge X (t := 36) rfl (by decide) ⟨by first | exact oq_fa4e5087 hi.2.1 | omega, by first | exact oq_4ee82282 hi.2.2 | omega⟩ (by decide) h1 h2) (fun g1002 => ?_) (fun g1002 => ?_)))
      ·
        refine d_lvs (lv := [(0, .ref (A 179)), (1, .int (Int32.ofInt x1)), (2, .int (Int32.ofInt c))]) (List.forall_mem_cons.mpr ⟨(List.Mem.head _), (List.forall_mem_cons.mpr ⟨(List.Mem.tail _ (List.Mem.head _)), (List.forall_mem_cons.mpr ⟨(List.Mem.tail _ (List.Mem.tail _ (List.Mem.head _))), (fun q h => absurd h List.not_mem_nil)⟩)⟩)⟩) ?_
        exact kx _ x1 c I F (by first | exact g1002 | omega)
      ·
        refine d_lift (fun k ws X h => z_aload_n X (x := A 179) rfl (List.Mem.head _) h) (d_liftS (fun k s X h => s_getR X 179 rfl (by decide) rfl rfl h) (d_lift (fun k ws X h => z_load_n X (x := c) rfl (List.Mem.tail _ (List.Mem.tail _ (List.Mem.head _))) h) (d_lift (fun k ws X h => z_aload_n X (x := A 179) rfl (List.Mem.head _) h) (d_liftS (fun k s X h => s_getR X 179 rfl (by decide) rfl rfl h) (d_lift (fun k ws X h => z_load_n X (x := c) rfl (List.Mem.tail _ (List.Mem.tail _ (List.Mem.head _))) h) (d_ald 256 rfl (by decide) rfl (by first | exact hi.2.1 | omega) (show c < 128 by first | exact g1002 | omega) (by decide) (hta1001 228 (by decide) _ (show (c).toNat < 128 by first | exact oq_afb89947 g1002 | omega)) ?_))))))
        have b1003 := bc_228 I (show (c).toNat < 128 by first | exact oq_afb89947 g1002 | omega)
        refine d_lift (fun k ws X h => z_load_n X (x := x1) rfl (List.Mem.tail _ (List.Mem.head _)) h) ?_
        have N1004 : ∀ e1005 : Int, ((((iC t 228 (c).toNat) ≠ x1) ∧ e1005 = 0) ∨ (((iC t 228 (c).toNat) = x1) ∧ e1005 = 1)) → DS l s0 D A dT 230 (rmN 230) [] [230] (TU T 230 128) Q (TU T 230 c) 29 [(0, .ref (A 179)), (1, .int (Int32.ofInt x1)), (2, .int (Int32.ofInt c))] [.int (Int32.ofInt e1005), .int (Int32.ofInt c), .ref (A 258)] t := by
          intro e1005 he1005
          have re1005 : 0 ≤ e1005 ∧ e1005 ≤ 1 := by first | (clear he1005; omega) | omega
          refine d_zast 258 rfl (by decide) rfl (by first | exact hi.2.1 | omega) (show c < 128 by first | exact g1002 | omega) (by decide) (by first | exact oq_4cdb41ba re1005.2 re1005.1 he1005 | omega) (show 230 ∈ _ by decide) (show (0 : Int) ≤ e1005 ∧ e1005 ≤ 1 by first | exact ⟨re1005.1, re1005.2⟩ | omega) ⟨by first | exact oq_fa4e5087 re1005.1 | omega, by first | exact oq_22e1e6b0 re1005.2 | omega⟩ (ds_gen (fun s1006 hs1006 => ?_))
          have Is1006 : Bd s1006 := eqB hs1006 (bd_C I (show (0 : Int) ≤ e1005 ∧ e1005 ≤ 1 by first | exact ⟨re1005.1, re1005.2⟩ | omega) ⟨by first | exact oq_fa4e5087 re1005.1 | omega, by first | exact oq_22e1e6b0 re1005.2 | omega⟩)
          have Fs1006 := eqF hs1006 (fm_C F (inl_ok (a := 230) rfl))
          refine d_lift (fun k ws X h => z_inc X (x := c) (lv' := [(2, .int (Int32.ofInt (c + 1))), (0, .ref (A 179)), (1, .int (Int32.ofInt x1))]) rfl (by decide) (List.Mem.tail _ (List.Mem.tail _ (List.Mem.head _))) (fun _ h => h) h) (d_lift (fun k ws X h => z_goto X (t := 2) rfl (by decide) h) (d_lvs (lv := [(0, .ref (A 179)), (1, .int (Int32.ofInt x1)), (2, .int (Int32.ofInt (c + 1)))]) (List.forall_mem_cons.mpr ⟨(List.Mem.tail _ (List.Mem.head _)), (List.forall_mem_cons.mpr ⟨(List.Mem.tail _ (List.Mem.tail _ (List.Mem.head _))), (List.forall_mem_cons.mpr ⟨(List.Mem.head _), (fun q h => absurd h List.not_mem_nil)⟩)⟩)⟩) (d_mono (T' := TU T 230 (c + 1)) (fun _ h => h) (TU_s (by first | (clear he1005; omega) | omega)) ?_)))
          exact ih _ x1 (c + 1) Is1006 Fs1006 (by first | exact ⟨And.intro (hi.1.1) (hi.1.2), oq_54f49eb5 hi.2.1, oq_d2afb425 g1002⟩ | omega) (by first | exact qk_me hm (by decide) (oq_c268b7bd g1002) | omega) kx
        refine d_br (bo_ne _ _) bx_ne (fun k ws X h1 h2 => z_icmp_ne X (t := 28) rfl (by decide) (rng_to _) ⟨by first | exact hi.1.1 | omega, by first | exact hi.1.2 | omega⟩ h1 h2) (fun g1007 => ?_) (fun g1007 => ?_)
        ·
          exact d_lift (fun k ws X h => z_const X rfl h) (N1004 _ (Or.inl ⟨g1007, rfl⟩))
        ·
          exact d_lift (fun k ws X h => z_const X rfl h) (d_lift (fun k ws X h => z_goto X (t := 29) rfl (by decide) h) (N1004 _ (Or.inr (⟨g1007, rfl⟩))))
  refine d_lift (fun k ws X h => z_const X rfl h) (d_lift (fun k ws X h => z_store_n X (lv' := [(2, .int (Int32.ofInt 0)), (0, .ref (A 179)), (1, .int (Int32.ofInt x))]) rfl (by decide) (fun _ h => h) h) (d_lvs (lv := [(0, .ref (A 179)), (1, .int (Int32.ofInt x)), (2, .int (Int32.ofInt 0))]) (List.forall_mem_cons.mpr ⟨(List.Mem.tail _ (List.Mem.head _)), (List.forall_mem_cons.mpr ⟨(List.Mem.tail _ (List.Mem.tail _ (List.Mem.head _))), (List.forall_mem_cons.mpr ⟨(List.Mem.head _), (fun q h => absurd h List.not_mem_nil)⟩)⟩)⟩) (d_mono (T' := TU T 230 0) (fun _ h => h) (TU_0 (by omega)) (L2 ((128 - 0 : Int).toNat + 1) s x 0 I F (by first | exact ⟨And.intro (p0.1) (p0.2), by decide, by decide⟩ | omega) (Nat.lt_succ_self _) ?_))))
  intro s1 x2 x3 Is1 Fs1 hs1
  exact d_vret rfl rfl (fun _ h => AGr_mono h (fun _ h => h) (TU_le (by omega))) (hQ _ _ ⟨Is1, Fs1, rfl, trivial⟩)
end M45
