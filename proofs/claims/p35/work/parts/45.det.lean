/-! Determined: what is heard -/
/-- T holds what is heard now -/
def OKN (T : TT) (s : PS) : Prop := ∀ j : Nat, j < 12 → (j : Int) < iI s 90 → T.2 202 j ∧ T.2 203 j ∧ (∀ c, c < 128 → T.2 (216 + j) c) ∧ ∀ k : Nat, (k : Int) < iC s 202 j → T.2 (204 + j) k
theorem OKN_fm {L M : List Nat} {T : TT} {s t : PS} (F : Fm L M s t) (h : 90 ∉ L ∧ 202 ∉ M) (r : OKN T s) : OKN T t := fun j hj hs => by
  rw [fm_i F h.1] at hs
  obtain ⟨a, b, c, d⟩ := r j hj hs
  exact ⟨a, b, c, fun k hk => d k (by rw [fm_c F h.2] at hk; exact hk)⟩
theorem OKN_mono {T T' : TT} {s : PS} (r : OKN T s) (h : ∀ a j, T.2 a j → T'.2 a j) : OKN T' s := fun j hj hs => by
  obtain ⟨a, b, c, d⟩ := r j hj hs
  exact ⟨h _ _ a, h _ _ b, fun i hi => h _ _ (c i hi), fun k hk => h _ _ (d k hk)⟩
theorem TU_0 {T : TT} {a : Nat} {k : Int} (h : k ≤ 0) : ∀ b j, (TU T a k).2 b j → T.2 b j := fun _ _ q => q.resolve_left (fun z => by have := z.2; omega)
theorem TU_s {T : TT} {a : Nat} {k : Int} (h : 0 ≤ k) : ∀ b j, (TU T a (k + 1)).2 b j → (TC (TU T a k) a k.toNat).2 b j := fun b j q => by
  rcases q with ⟨q1, q2⟩ | q
  · by_cases e : j = k.toNat
    · exact Or.inl ⟨q1, e⟩
    · exact Or.inr (Or.inl ⟨q1, by omega⟩)
  · exact Or.inr (Or.inr q)
theorem TU_le {T : TT} {a : Nat} {k m : Int} (h : m ≤ k) : ∀ b j, (TU T a m).2 b j → (TU T a k).2 b j := fun _ _ q => q.imp (fun z => ⟨z.1, by have := z.2; omega⟩) id
section M45
variable {l : Launch} {s0 : State} {D : va_G} {tys : List (ClassId × FieldType)} {a0 : Array Value} {A : Nat → Nat} {dT : Nat → ClassId} {s : PS}
set_option maxHeartbeats 16000000 in
theorem d_goes (G : GX l s0 D tys a0 dT) (I : Bd s) {x y : Int} (p0 : 0 ≤ x ∧ x ≤ 11) (p1 : 0 ≤ y ∧ y < iC s 202 (x : Int).toNat) (p2 : x < iI s 90) {T : TT} (hti : ∀ q ∈ ([] : List Nat), T.1 q) (hta : ∀ a ∈ ([] : List Nat), ∀ j, j < (bA a).2.2 → T.2 a j) (htn : OKN T s) : CD l s0 D A dT 226 (rmN 226) [] [] T (T) [.ref (A 179), .int (Int32.ofInt x), .int (Int32.ofInt y)] s (fun o t => Bd t ∧ Fm [] [] s t ∧ ∃ e, o = .inl (some (.int (Int32.ofInt e))) ∧ rng e ∧ (0 ≤ e ∧ e ≤ 6)) := by
  refine cd_of G (by decide) (Nat.le_of_ble_eq_true rfl) (fun Q hQ => ?_)
  have I0 := I
  show DS l s0 D A dT 226 (rmN 226) [] [] (T) Q (T) 0 [(0, .ref (A 179)), (1, .int (Int32.ofInt x)), (2, .int (Int32.ofInt y))] [] s
  have F : Fm [] [] s s := fm_rf _ _ s
  refine d_lift (fun k ws X h => z_aload_n X (x := A 179) (show cdA 226 0 = some (.aload_n 0, 1, 0, 0, 0) from rfl) (List.Mem.head _) h) ?_
  refine d_liftS (fun k s X h => s_getR X 179 (show cdA 226 1 = some (.getfield 58, 3, 12, 31, 0) from rfl) (by decide) rfl rfl h) ?_
  refine d_lift (fun k ws X h => z_load_n X (x := x) (show cdA 226 4 = some (.iload_n 1, 1, 0, 0, 0) from rfl) (List.Mem.tail _ (List.Mem.head _)) h) ?_
  refine d_ald 228 (show cdA 226 5 = some (.iaload, 1, 0, 0, 0) from rfl) (by decide) rfl (by first | exact p0.1 | omega) (show x < 12 by first | exact oq_0ddfcfee p0.2 | omega) (by decide) ((htn _ (show (x : Int).toNat < 12 by omega) (show (((x : Int).toNat : Nat) : Int) < iI s 90 by omega)).1) ?_
  have b1 : (0 : Int) ≤ iC s 202 (x).toNat ∧ iC s 202 (x).toNat ≤ 24 := I.2 202 _ (show (x).toNat < 12 by first | exact oq_9c5fa447 p0.2 | omega)
  refine d_lift (fun k ws X h => z_const X (show cdA 226 6 = some (.iconst 1, 1, 0, 0, 0) from rfl) h) ?_
  refine d_br (bo_ne _ _) bx_ne (fun k ws X h1 h2 => z_icmp_ne X (t := 15) (show cdA 226 7 = some (.if_icmp .ne 8, 3, 1, 0, 0) from rfl) (by decide) (rng_to _) (by decide) h1 h2) (fun g2 => ?_) (fun g2 => ?_)
  ·
    refine d_lift (fun k ws X h => z_load_n X (x := y) (show cdA 226 15 = some (.iload_n 2, 1, 0, 0, 0) from rfl) (List.Mem.tail _ (List.Mem.tail _ (List.Mem.head _))) h) ?_
    refine d_lift (fun k ws X h => z_aload_n X (x := A 179) (show cdA 226 16 = some (.aload_n 0, 1, 0, 0, 0) from rfl) (List.Mem.head _) h) ?_
    refine d_liftS (fun k s X h => s_getR X 179 (show cdA 226 17 = some (.getfield 58, 3, 12, 31, 0) from rfl) (by decide) rfl rfl h) ?_
    refine d_lift (fun k ws X h => z_load_n X (x := x) (show cdA 226 20 = some (.iload_n 1, 1, 0, 0, 0) from rfl) (List.Mem.tail _ (List.Mem.head _)) h) ?_
    refine d_ald 228 (show cdA 226 21 = some (.iaload, 1, 0, 0, 0) from rfl) (by decide) rfl (by first | exact p0.1 | omega) (show x < 12 by first | exact oq_0ddfcfee p0.2 | omega) (by decide) ((htn _ (show (x : Int).toNat < 12 by omega) (show (((x : Int).toNat : Nat) : Int) < iI s 90 by omega)).1) ?_
    have b3 : (0 : Int) ≤ iC s 202 (x).toNat ∧ iC s 202 (x).toNat ≤ 24 := I.2 202 _ (show (x).toNat < 12 by first | exact oq_9c5fa447 p0.2 | omega)
    refine d_lift (fun k ws X h => z_const X (show cdA 226 22 = some (.iconst 1, 1, 0, 0, 0) from rfl) h) ?_
    refine d_lift (fun k ws X h => z_sub X (show cdA 226 23 = some (.isub, 1, 0, 0, 0) from rfl) h) ?_
    refine d_br (bo_ne _ _) bx_ne (fun k ws X h1 h2 => z_icmp_ne X (t := 51) (show cdA 226 24 = some (.if_icmp .ne 27, 3, 1, 0, 0) from rfl) (by decide) ⟨by first | exact oq_fa4e5087 p1.1 | omega, by first | exact oq_cd47680f p1.2 b3.2 | omega⟩ ⟨by first | exact oq_c1e961c7 b3.1 | omega, by first | exact oq_0332e1ab b3.2 | omega⟩ h1 h2) (fun g4 => ?_) (fun g4 => ?_)
    ·
      refine d_lift (fun k ws X h => z_aload_n X (x := A 179) (show cdA 226 51 = some (.aload_n 0, 1, 0, 0, 0) from rfl) (List.Mem.head _) h) ?_
      refine d_liftS (fun k s X h => s_getR X 179 (show cdA 226 52 = some (.getfield 64, 3, 12, 33, 0) from rfl) (by decide) rfl rfl h) ?_
      refine d_lift (fun k ws X h => z_load_n X (x := x) (show cdA 226 55 = some (.iload_n 1, 1, 0, 0, 0) from rfl) (List.Mem.tail _ (List.Mem.head _)) h) ?_
      refine d_liftS (fun k s X h => z_aald X rw_230 (show cdA 226 56 = some (.aaload, 1, 0, 0, 0) from rfl) (by first | exact p0.1 | omega) (show x < 12 by first | exact oq_0ddfcfee p0.2 | omega) (by decide) h) ?_
      refine d_lift (fun k ws X h => z_load_n X (x := y) (show cdA 226 57 = some (.iload_n 2, 1, 0, 0, 0) from rfl) (List.Mem.tail _ (List.Mem.tail _ (List.Mem.head _))) h) ?_
      refine d_ald2 rw_230 (show cdA 226 58 = some (.iaload, 1, 0, 0, 0) from rfl) (show (x : Int).toNat < 12 by first | exact oq_9c5fa447 p0.2 | omega) (by first | exact p1.1 | omega) (show y < 24 by first | exact oq_8ff7beb9 p1.2 b3.2 | omega) (by decide) ((htn _ (show (x : Int).toNat < 12 by omega) (show (((x : Int).toNat : Nat) : Int) < iI s 90 by omega)).2.2.2 _ (show (((y : Int).toNat : Nat) : Int) < iC s 202 (x : Int).toNat by omega)) ?_
      have b5 : (0 : Int) ≤ (iC s (204 + (x : Int).toNat) (y : Int).toNat) ∧ (iC s (204 + (x : Int).toNat) (y : Int).toNat) ≤ 127 := rw_bd rw_230 I (show (x : Int).toNat < 12 by first | exact oq_9c5fa447 p0.2 | omega) (show (y : Int).toNat < 24 by first | exact oq_9e668fc9 p1.2 b3.2 | omega)
      refine d_lift (fun k ws X h => z_aload_n X (x := A 179) (show cdA 226 59 = some (.aload_n 0, 1, 0, 0, 0) from rfl) (List.Mem.head _) h) ?_
      refine d_liftS (fun k s X h => s_getR X 179 (show cdA 226 60 = some (.getfield 64, 3, 12, 33, 0) from rfl) (by decide) rfl rfl h) ?_
      refine d_lift (fun k ws X h => z_load_n X (x := x) (show cdA 226 63 = some (.iload_n 1, 1, 0, 0, 0) from rfl) (List.Mem.tail _ (List.Mem.head _)) h) ?_
      refine d_liftS (fun k s X h => z_aald X rw_230 (show cdA 226 64 = some (.aaload, 1, 0, 0, 0) from rfl) (by first | exact p0.1 | omega) (show x < 12 by first | exact oq_0ddfcfee p0.2 | omega) (by decide) h) ?_
      refine d_lift (fun k ws X h => z_load_n X (x := y) (show cdA 226 65 = some (.iload_n 2, 1, 0, 0, 0) from rfl) (List.Mem.tail _ (List.Mem.tail _ (List.Mem.head _))) h) ?_
      refine d_lift (fun k ws X h => z_const X (show cdA 226 66 = some (.iconst 1, 1, 0, 0, 0) from rfl) h) ?_
      refine d_lift (fun k ws X h => z_add X (show cdA 226 67 = some (.iadd, 1, 0, 0, 0) from rfl) h) ?_
      refine d_ald2 rw_230 (show cdA 226 68 = some (.iaload, 1, 0, 0, 0) from rfl) (show (x : Int).toNat < 12 by first | exact oq_9c5fa447 p0.2 | omega) (by first | exact oq_54f49eb5 p1.1 | omega) (show (y + 1) < 24 by first | exact oq_0152e793 g4 b3.2 p1.2 | omega) (by decide) ((htn _ (show (x : Int).toNat < 12 by omega) (show (((x : Int).toNat : Nat) : Int) < iI s 90 by omega)).2.2.2 _ (show ((((y + 1) : Int).toNat : Nat) : Int) < iC s 202 (x : Int).toNat by omega)) ?_
      have b6 : (0 : Int) ≤ (iC s (204 + (x : Int).toNat) ((y + 1) : Int).toNat) ∧ (iC s (204 + (x : Int).toNat) ((y + 1) : Int).toNat) ≤ 127 := rw_bd rw_230 I (show (x : Int).toNat < 12 by first | exact oq_9c5fa447 p0.2 | omega) (show ((y + 1) : Int).toNat < 24 by first | exact oq_fa8c9353 g4 b3.2 p1.2 | omega)
      refine d_callT (As := [.int (Int32.ofInt (iC s (204 + (x : Int).toNat) (y : Int).toNat)), .int (Int32.ofInt (iC s (204 + (x : Int).toNat) ((y + 1) : Int).toNat))]) (st := []) (show cdA 226 69 = some (.invokestatic 312, 3, 225, 1, 0) from rfl) rfl (d_stepOf G I (by first | exact ⟨b5.1, b5.2⟩ | omega) (by first | exact ⟨b6.1, b6.2⟩ | omega) (fun q h => hti q ((by decide : ∀ q ∈ ([] : List Nat), q ∈ ([] : List Nat)) q h)) (fun a h => hta a ((by decide : ∀ q ∈ ([] : List Nat), q ∈ ([] : List Nat)) a h))) ⟨rfl, rfl⟩ ⟨(show 6 + 1 ≤ 7 from oq_7ae2681c), (show 8 + (mNL (miB 225) + 11) + 100 ≤ 121 from oq_68e6451f)⟩ (Nat.le_of_ble_eq_true rfl) (by decide) (by decide) (fun ee s7 hq => ?_) (fun vv s7 hq => ?_)
      · obtain ⟨Is7, Fs7, e8, hv, hrs7, hps7⟩ := hq; cases hv
      obtain ⟨Is7, Fs7, e8, hv, hrs7, hps7⟩ := hq
      cases hv
      have Gs7 := fm_ts F Fs7 (by decide) (by decide)
      show DS l s0 D A dT 226 (rmN 226) [] [] (T) Q (T) 72 [(0, .ref (A 179)), (1, .int (Int32.ofInt x)), (2, .int (Int32.ofInt y))] [.int (Int32.ofInt e8)] s7
      exact d_iret rfl rfl (Or.inl rfl) (show cdA 226 72 = some (.ireturn, 1, 0, 0, 0) from rfl) (fun _ h => h) (hQ _ _ ⟨Is7, Gs7, e8, rfl, hrs7, by first | exact ⟨hps7.1, oq_b982df86 hps7.2⟩ | omega⟩)
    ·
      refine d_lift (fun k ws X h => z_aload_n X (x := A 179) (show cdA 226 27 = some (.aload_n 0, 1, 0, 0, 0) from rfl) (List.Mem.head _) h) ?_
      refine d_liftS (fun k s X h => s_getR X 179 (show cdA 226 28 = some (.getfield 64, 3, 12, 33, 0) from rfl) (by decide) rfl rfl h) ?_
      refine d_lift (fun k ws X h => z_load_n X (x := x) (show cdA 226 31 = some (.iload_n 1, 1, 0, 0, 0) from rfl) (List.Mem.tail _ (List.Mem.head _)) h) ?_
      refine d_liftS (fun k s X h => z_aald X rw_230 (show cdA 226 32 = some (.aaload, 1, 0, 0, 0) from rfl) (by first | exact p0.1 | omega) (show x < 12 by first | exact oq_0ddfcfee p0.2 | omega) (by decide) h) ?_
      refine d_lift (fun k ws X h => z_load_n X (x := y) (show cdA 226 33 = some (.iload_n 2, 1, 0, 0, 0) from rfl) (List.Mem.tail _ (List.Mem.tail _ (List.Mem.head _))) h) ?_
      refine d_lift (fun k ws X h => z_const X (show cdA 226 34 = some (.iconst 1, 1, 0, 0, 0) from rfl) h) ?_
      refine d_lift (fun k ws X h => z_sub X (show cdA 226 35 = some (.isub, 1, 0, 0, 0) from rfl) h) ?_
      refine d_ald2 rw_230 (show cdA 226 36 = some (.iaload, 1, 0, 0, 0) from rfl) (show (x : Int).toNat < 12 by first | exact oq_9c5fa447 p0.2 | omega) (by first | exact oq_35f9a344 g4 g2 p1.1 | omega) (show (y - 1) < 24 by first | exact oq_514020d0 g4 b3.2 | omega) (by decide) ((htn _ (show (x : Int).toNat < 12 by omega) (show (((x : Int).toNat : Nat) : Int) < iI s 90 by omega)).2.2.2 _ (show ((((y - 1) : Int).toNat : Nat) : Int) < iC s 202 (x : Int).toNat by omega)) ?_
      have b9 : (0 : Int) ≤ (iC s (204 + (x : Int).toNat) ((y - 1) : Int).toNat) ∧ (iC s (204 + (x : Int).toNat) ((y - 1) : Int).toNat) ≤ 127 := rw_bd rw_230 I (show (x : Int).toNat < 12 by first | exact oq_9c5fa447 p0.2 | omega) (show ((y - 1) : Int).toNat < 24 by first | exact oq_4b444e5a g4 b3.2 | omega)
      refine d_lift (fun k ws X h => z_aload_n X (x := A 179) (show cdA 226 37 = some (.aload_n 0, 1, 0, 0, 0) from rfl) (List.Mem.head _) h) ?_
      refine d_liftS (fun k s X h => s_getR X 179 (show cdA 226 38 = some (.getfield 64, 3, 12, 33, 0) from rfl) (by decide) rfl rfl h) ?_
      refine d_lift (fun k ws X h => z_load_n X (x := x) (show cdA 226 41 = some (.iload_n 1, 1, 0, 0, 0) from rfl) (List.Mem.tail _ (List.Mem.head _)) h) ?_
      refine d_liftS (fun k s X h => z_aald X rw_230 (show cdA 226 42 = some (.aaload, 1, 0, 0, 0) from rfl) (by first | exact p0.1 | omega) (show x < 12 by first | exact oq_0ddfcfee p0.2 | omega) (by decide) h) ?_
      refine d_lift (fun k ws X h => z_load_n X (x := y) (show cdA 226 43 = some (.iload_n 2, 1, 0, 0, 0) from rfl) (List.Mem.tail _ (List.Mem.tail _ (List.Mem.head _))) h) ?_
      refine d_ald2 rw_230 (show cdA 226 44 = some (.iaload, 1, 0, 0, 0) from rfl) (show (x : Int).toNat < 12 by first | exact oq_9c5fa447 p0.2 | omega) (by first | exact p1.1 | omega) (show y < 24 by first | exact oq_9cfd8ba8 g4 b3.2 | omega) (by decide) ((htn _ (show (x : Int).toNat < 12 by omega) (show (((x : Int).toNat : Nat) : Int) < iI s 90 by omega)).2.2.2 _ (show (((y : Int).toNat : Nat) : Int) < iC s 202 (x : Int).toNat by omega)) ?_
      have b10 : (0 : Int) ≤ (iC s (204 + (x : Int).toNat) (y : Int).toNat) ∧ (iC s (204 + (x : Int).toNat) (y : Int).toNat) ≤ 127 := rw_bd rw_230 I (show (x : Int).toNat < 12 by first | exact oq_9c5fa447 p0.2 | omega) (show (y : Int).toNat < 24 by first | exact oq_bfe9ed15 g4 b3.2 | omega)
      refine d_callT (As := [.int (Int32.ofInt (iC s (204 + (x : Int).toNat) ((y - 1) : Int).toNat)), .int (Int32.ofInt (iC s (204 + (x : Int).toNat) (y : Int).toNat))]) (st := []) (show cdA 226 45 = some (.invokestatic 312, 3, 225, 1, 0) from rfl) rfl (d_stepOf G I (by first | exact ⟨b9.1, b9.2⟩ | omega) (by first | exact ⟨b10.1, b10.2⟩ | omega) (fun q h => hti q ((by decide : ∀ q ∈ ([] : List Nat), q ∈ ([] : List Nat)) q h)) (fun a h => hta a ((by decide : ∀ q ∈ ([] : List Nat), q ∈ ([] : List Nat)) a h))) ⟨rfl, rfl⟩ ⟨(show 6 + 1 ≤ 7 from oq_7ae2681c), (show 8 + (mNL (miB 225) + 11) + 100 ≤ 121 from oq_68e6451f)⟩ (Nat.le_of_ble_eq_true rfl) (by decide) (by decide) (fun ee s11 hq => ?_) (fun vv s11 hq => ?_)
      · obtain ⟨Is11, Fs11, e12, hv, hrs11, hps11⟩ := hq; cases hv
      obtain ⟨Is11, Fs11, e12, hv, hrs11, hps11⟩ := hq
      cases hv
      have Gs11 := fm_ts F Fs11 (by decide) (by decide)
      show DS l s0 D A dT 226 (rmN 226) [] [] (T) Q (T) 48 [(0, .ref (A 179)), (1, .int (Int32.ofInt x)), (2, .int (Int32.ofInt y))] [.int (Int32.ofInt e12)] s11
      refine d_lift (fun k ws X h => z_goto X (t := 72) (show cdA 226 48 = some (.goto 24, 3, 0, 0, 0) from rfl) (by decide) h) ?_
      exact d_iret rfl rfl (Or.inl rfl) (show cdA 226 72 = some (.ireturn, 1, 0, 0, 0) from rfl) (fun _ h => h) (hQ _ _ ⟨Is11, Gs11, e12, rfl, hrs11, by first | exact ⟨hps11.1, oq_b982df86 hps11.2⟩ | omega⟩)
  ·
    refine d_lift (fun k ws X h => z_bipush X (show cdA 226 10 = some (.bipush 6, 2, 0, 0, 6) from rfl) h) ?_
    refine d_lift (fun k ws X h => z_goto X (t := 72) (show cdA 226 12 = some (.goto 60, 3, 0, 0, 0) from rfl) (by decide) h) ?_
    exact d_iret rfl rfl (Or.inl rfl) (show cdA 226 72 = some (.ireturn, 1, 0, 0, 0) from rfl) (fun _ h => h) (hQ _ _ ⟨I, F, 6, rfl, (by decide), by first | exact ⟨by decide, by decide⟩ | omega⟩)
set_option maxHeartbeats 16000000 in
theorem d_mostOf (G : GX l s0 D tys a0 dT) (I : Bd s) {x y : Int} (p0 : 0 ≤ x ∧ x ≤ 11) (p1 : 0 ≤ y ∧ y ≤ 23) {T : TT} (hti : ∀ q ∈ ([] : List Nat), T.1 q) (hta : ∀ a ∈ ([163, 164] : List Nat), ∀ j, j < (bA a).2.2 → T.2 a j) (hcn : ∀ j, j < 12 → ∀ k, k < 24 → T.2 (190 + j) k) : CD l s0 D A dT 220 (rmN 220) [] [] T (T) [.ref (A 179), .int (Int32.ofInt x), .int (Int32.ofInt y)] s (fun o t => Bd t ∧ Fm [] [] s t ∧ ∃ e, o = .inl (some (.int (Int32.ofInt e))) ∧ rng e ∧ (0 ≤ e ∧ e ≤ 50)) := by
  refine cd_of G (by decide) (Nat.le_of_ble_eq_true rfl) (fun Q hQ => ?_)
  have I0 := I
  show DS l s0 D A dT 220 (rmN 220) [] [] (T) Q (T) 0 [(0, .ref (A 179)), (1, .int (Int32.ofInt x)), (2, .int (Int32.ofInt y))] [] s
  have F : Fm [] [] s s := fm_rf _ _ s
  have L12 : ∀ (n : Nat) (t : PS) (xv yv nv c : Int), Bd t → Fm [] [] s t → ((0 ≤ xv ∧ xv ≤ 11) ∧ (0 ≤ yv ∧ yv ≤ 23) ∧ (0 ≤ nv ∧ nv ≤ 50) ∧ -2 ≤ c ∧ c ≤ 26) → (26 - c : Int).toNat < n → (∀ (t' : PS) (xv' yv' nv' c' : Int), Bd t' → Fm [] [] s t' → ((0 ≤ xv' ∧ xv' ≤ 11) ∧ (0 ≤ yv' ∧ yv' ≤ 23) ∧ (0 ≤ nv' ∧ nv' ≤ 50) ∧ -2 ≤ c' ∧ c' ≤ 26) → DS l s0 D A dT 220 (rmN 220) [] [] (T) Q (T) 65 [(0, .ref (A 179)), (1, .int (Int32.ofInt xv')), (2, .int (Int32.ofInt yv')), (3, .int (Int32.ofInt nv')), (4, .int (Int32.ofInt c'))] [] t') → DS l s0 D A dT 220 (rmN 220) [] [] (T) Q (T) 12 [(0, .ref (A 179)), (1, .int (Int32.ofInt xv)), (2, .int (Int32.ofInt yv)), (3, .int (Int32.ofInt nv)), (4, .int (Int32.ofInt c))] [] t := by
    intro n
    induction n with
    | zero =>
      intro t xv yv nv c I F hi hm kx
      exact absurd hm (Nat.not_lt_zero _)
    | succ n ih =>
      intro t xv yv nv c I F hi hm kx
      refine d_lift (fun k ws X h => z_load X (x := c) (show cdA 220 12 = some (.iload 4, 2, 0, 0, 0) from rfl) (List.Mem.tail _ (List.Mem.tail _ (List.Mem.tail _ (List.Mem.tail _ (List.Mem.head _))))) h) ?_
      refine d_lift (fun k ws X h => z_load_n X (x := yv) (show cdA 220 14 = some (.iload_n 2, 1, 0, 0, 0) from rfl) (List.Mem.tail _ (List.Mem.tail _ (List.Mem.head _))) h) ?_
      refine d_lift (fun k ws X h => z_aload_n X (x := A 179) (show cdA 220 15 = some (.aload_n 0, 1, 0, 0, 0) from rfl) (List.Mem.head _) h) ?_
      refine d_liftS (fun k s X h => s_getR X 179 (show cdA 220 16 = some (.getfield 38, 3, 12, 24, 0) from rfl) (by decide) rfl rfl h) ?_
      refine d_lift (fun k ws X h => z_load_n X (x := xv) (show cdA 220 19 = some (.iload_n 1, 1, 0, 0, 0) from rfl) (List.Mem.tail _ (List.Mem.head _)) h) ?_
      refine d_ald 186 (show cdA 220 20 = some (.iaload, 1, 0, 0, 0) from rfl) (by decide) rfl (by first | exact hi.1.1 | omega) (show xv < 12 by first | exact oq_0ddfcfee hi.1.2 | omega) (by decide) (hta 163 (by decide) _ (show (xv).toNat < 12 by first | exact oq_9c5fa447 hi.1.2 | omega)) ?_
      have b1001 : (0 : Int) ≤ iC t 163 (xv).toNat ∧ iC t 163 (xv).toNat ≤ 2 := I.2 163 _ (show (xv).toNat < 12 by first | exact oq_9c5fa447 hi.1.2 | omega)
      refine d_lift (fun k ws X h => z_add X (show cdA 220 21 = some (.iadd, 1, 0, 0, 0) from rfl) h) ?_
      refine d_br (bo_gt _ _) bx_gt (fun k ws X h1 h2 => z_icmp_gt X (t := 65) (show cdA 220 22 = some (.if_icmp .gt 43, 3, 4, 0, 0) from rfl) (by decide) ⟨by first | exact oq_f81b6609 hi.2.2.2.1 | omega, by first | exact oq_9e7d853b hi.2.2.2.2 | omega⟩ ⟨by first | exact oq_34aac425 hi.2.1.1 b1001.1 | omega, by first | exact oq_b5a47671 hi.2.1.2 b1001.2 | omega⟩ h1 h2) (fun g1002 => ?_) (fun g1002 => ?_)
      ·
        refine d_lvs (lv := [(0, .ref (A 179)), (1, .int (Int32.ofInt xv)), (2, .int (Int32.ofInt yv)), (3, .int (Int32.ofInt nv)), (4, .int (Int32.ofInt c))]) (List.forall_mem_cons.mpr ⟨(List.Mem.head _), (List.forall_mem_cons.mpr ⟨(List.Mem.tail _ (List.Mem.head _)), (List.forall_mem_cons.mpr ⟨(List.Mem.tail _ (List.Mem.tail _ (List.Mem.head _))), (List.forall_mem_cons.mpr ⟨(List.Mem.tail _ (List.Mem.tail _ (List.Mem.tail _ (List.Mem.head _)))), (List.forall_mem_cons.mpr ⟨(List.Mem.tail _ (List.Mem.tail _ (List.Mem.tail _ (List.Mem.tail _ (List.Mem.head _))))), (fun q h => absurd h List.not_mem_nil)⟩)⟩)⟩)⟩)⟩) ?_
        exact kx _ xv yv nv c I F (by first | exact ⟨And.intro (hi.1.1) (hi.1.2), And.intro (hi.2.1.1) (hi.2.1.2), And.intro (hi.2.2.1.1) (hi.2.2.1.2), hi.2.2.2.1, hi.2.2.2.2⟩ | omega)
      ·
        refine d_lift (fun k ws X h => z_load X (x := c) (show cdA 220 25 = some (.iload 4, 2, 0, 0, 0) from rfl) (List.Mem.tail _ (List.Mem.tail _ (List.Mem.tail _ (List.Mem.tail _ (List.Mem.head _))))) h) ?_
        refine d_lift (fun k ws X h => z_const X (show cdA 220 27 = some (.iconst 0, 1, 0, 0, 0) from rfl) h) ?_
        refine d_lift (fun k ws X h => z_bipush X (show cdA 220 28 = some (.bipush 23, 2, 0, 0, 23) from rfl) h) ?_
        refine d_callT (As := [.int (Int32.ofInt c), .int (Int32.ofInt 0), .int (Int32.ofInt 23)]) (st := []) (show cdA 220 30 = some (.invokestatic 209, 3, 188, 1, 0) from rfl) rfl (d_in G I (by first | exact ⟨oq_f81b6609 hi.2.2.2.1, oq_9e7d853b hi.2.2.2.2⟩ | omega) (by first | exact ⟨by decide, by decide⟩ | omega) (by first | exact ⟨by decide, by decide⟩ | omega) (fun q h => hti q ((by decide : ∀ q ∈ ([] : List Nat), q ∈ ([] : List Nat)) q h)) (fun a h => hta a ((by decide : ∀ q ∈ ([] : List Nat), q ∈ ([163, 164] : List Nat)) a h))) ⟨rfl, rfl⟩ ⟨(show 6 + 1 ≤ 7 from oq_7ae2681c), (show 8 + (mNL (miB 188) + 11) + 100 ≤ 122 from oq_91725b71)⟩ (Nat.le_of_ble_eq_true rfl) (by decide) (by decide) (fun ee s1003 hq => ?_) (fun vv s1003 hq => ?_)
        · obtain ⟨Is1003, Fs1003, e1004, hv, hrs1003, hps1003⟩ := hq; cases hv
        obtain ⟨Is1003, Fs1003, e1004, hv, hrs1003, hps1003⟩ := hq
        cases hv
        have Gs1003 := fm_ts F Fs1003 (by decide) (by decide)
        show DS l s0 D A dT 220 (rmN 220) [] [] (T) Q (T) 33 [(0, .ref (A 179)), (1, .int (Int32.ofInt xv)), (2, .int (Int32.ofInt yv)), (3, .int (Int32.ofInt nv)), (4, .int (Int32.ofInt c))] [.int (Int32.ofInt e1004)] s1003
        refine d_br (bo_eq _ _) bx_eq (fun k ws X h1 h2 => z_if_eq X (t := 59) (show cdA 220 33 = some (.ifCond .eq 26, 3, 0, 0, 0) from rfl) (by decide) hrs1003 h1 h2) (fun g1005 => ?_) (fun g1005 => ?_)
        ·
          refine d_lift (fun k ws X h => z_inc X (x := c) (lv' := [(4, .int (Int32.ofInt (c + 1))), (0, .ref (A 179)), (1, .int (Int32.ofInt xv)), (2, .int (Int32.ofInt yv)), (3, .int (Int32.ofInt nv))]) (show cdA 220 59 = some (.iinc 4 1, 3, 0, 0, 0) from rfl) (by decide) (List.Mem.tail _ (List.Mem.tail _ (List.Mem.tail _ (List.Mem.tail _ (List.Mem.head _))))) (fun _ h => h) h) ?_
          refine d_lift (fun k ws X h => z_goto X (t := 12) (show cdA 220 62 = some (.goto (-50), 3, 0, 0, 0) from rfl) (by decide) h) ?_
          refine d_lvs (lv := [(0, .ref (A 179)), (1, .int (Int32.ofInt xv)), (2, .int (Int32.ofInt yv)), (3, .int (Int32.ofInt nv)), (4, .int (Int32.ofInt (c + 1)))]) (List.forall_mem_cons.mpr ⟨(List.Mem.tail _ (List.Mem.head _)), (List.forall_mem_cons.mpr ⟨(List.Mem.tail _ (List.Mem.tail _ (List.Mem.head _))), (List.forall_mem_cons.mpr ⟨(List.Mem.tail _ (List.Mem.tail _ (List.Mem.tail _ (List.Mem.head _)))), (List.forall_mem_cons.mpr ⟨(List.Mem.tail _ (List.Mem.tail _ (List.Mem.tail _ (List.Mem.tail _ (List.Mem.head _))))), (List.forall_mem_cons.mpr ⟨(List.Mem.head _), (fun q h => absurd h List.not_mem_nil)⟩)⟩)⟩)⟩)⟩) ?_
          exact ih _ xv yv nv (c + 1) Is1003 Gs1003 (by first | exact ⟨And.intro (hi.1.1) (hi.1.2), And.intro (hi.2.1.1) (hi.2.1.2), And.intro (hi.2.2.1.1) (hi.2.2.1.2), oq_826c3458 hi.2.2.2.1, oq_78fc2d48 g1002 hi.2.1.2 b1001.2⟩ | omega) (by first | exact qk_me hm (by decide) (oq_5c7f6a1c g1002 hi.2.1.2 b1001.2) | omega) kx
        ·
          refine d_lift (fun k ws X h => z_aload_n X (x := A 179) (show cdA 220 36 = some (.aload_n 0, 1, 0, 0, 0) from rfl) (List.Mem.head _) h) ?_
          refine d_liftS (fun k s X h => s_getR X 179 (show cdA 220 37 = some (.getfield 55, 3, 12, 30, 0) from rfl) (by decide) rfl rfl h) ?_
          refine d_lift (fun k ws X h => z_load_n X (x := xv) (show cdA 220 40 = some (.iload_n 1, 1, 0, 0, 0) from rfl) (List.Mem.tail _ (List.Mem.head _)) h) ?_
          refine d_liftS (fun k s X h => z_aald X rw_215 (show cdA 220 41 = some (.aaload, 1, 0, 0, 0) from rfl) (by first | exact hi.1.1 | omega) (show xv < 12 by first | exact oq_0ddfcfee hi.1.2 | omega) (by decide) h) ?_
          refine d_lift (fun k ws X h => z_load X (x := c) (show cdA 220 42 = some (.iload 4, 2, 0, 0, 0) from rfl) (List.Mem.tail _ (List.Mem.tail _ (List.Mem.tail _ (List.Mem.tail _ (List.Mem.head _))))) h) ?_
          refine d_ald2 rw_215 (show cdA 220 44 = some (.iaload, 1, 0, 0, 0) from rfl) (show (xv : Int).toNat < 12 by first | exact oq_9c5fa447 hi.1.2 | omega) (by first | exact oq_0159bb48 g1005 hps1003 | omega) (show c < 24 by first | exact oq_127752ee g1005 hps1003 | omega) (by decide) (hcn _ (show (xv : Int).toNat < 12 by omega) _ (show (c : Int).toNat < 24 by omega)) ?_
          have b1006 : (0 : Int) ≤ (iC s1003 (190 + (xv : Int).toNat) (c : Int).toNat) ∧ (iC s1003 (190 + (xv : Int).toNat) (c : Int).toNat) ≤ 50 := rw_bd rw_215 Is1003 (show (xv : Int).toNat < 12 by first | exact oq_9c5fa447 hi.1.2 | omega) (show (c : Int).toNat < 24 by first | exact oq_200d9360 g1005 hps1003 | omega)
          refine d_lift (fun k ws X h => z_load_n X (x := nv) (show cdA 220 45 = some (.iload_n 3, 1, 0, 0, 0) from rfl) (List.Mem.tail _ (List.Mem.tail _ (List.Mem.tail _ (List.Mem.head _)))) h) ?_
          refine d_br (bo_le _ _) bx_le (fun k ws X h1 h2 => z_icmp_le X (t := 59) (show cdA 220 46 = some (.if_icmp .le 13, 3, 5, 0, 0) from rfl) (by decide) (rng_to _) ⟨by first | exact oq_fa4e5087 hi.2.2.1.1 | omega, by first | exact oq_cbe526b3 hi.2.2.1.2 | omega⟩ h1 h2) (fun g1007 => ?_) (fun g1007 => ?_)
          ·
            refine d_lift (fun k ws X h => z_inc X (x := c) (lv' := [(4, .int (Int32.ofInt (c + 1))), (0, .ref (A 179)), (1, .int (Int32.ofInt xv)), (2, .int (Int32.ofInt yv)), (3, .int (Int32.ofInt nv))]) (show cdA 220 59 = some (.iinc 4 1, 3, 0, 0, 0) from rfl) (by decide) (List.Mem.tail _ (List.Mem.tail _ (List.Mem.tail _ (List.Mem.tail _ (List.Mem.head _))))) (fun _ h => h) h) ?_
            refine d_lift (fun k ws X h => z_goto X (t := 12) (show cdA 220 62 = some (.goto (-50), 3, 0, 0, 0) from rfl) (by decide) h) ?_
            refine d_lvs (lv := [(0, .ref (A 179)), (1, .int (Int32.ofInt xv)), (2, .int (Int32.ofInt yv)), (3, .int (Int32.ofInt nv)), (4, .int (Int32.ofInt (c + 1)))]) (List.forall_mem_cons.mpr ⟨(List.Mem.tail _ (List.Mem.head _)), (List.forall_mem_cons.mpr ⟨(List.Mem.tail _ (List.Mem.tail _ (List.Mem.head _))), (List.forall_mem_cons.mpr ⟨(List.Mem.tail _ (List.Mem.tail _ (List.Mem.tail _ (List.Mem.head _)))), (List.forall_mem_cons.mpr ⟨(List.Mem.tail _ (List.Mem.tail _ (List.Mem.tail _ (List.Mem.tail _ (List.Mem.head _))))), (List.forall_mem_cons.mpr ⟨(List.Mem.head _), (fun q h => absurd h List.not_mem_nil)⟩)⟩)⟩)⟩)⟩) ?_
            exact ih _ xv yv nv (c + 1) Is1003 Gs1003 (by first | exact ⟨And.intro (hi.1.1) (hi.1.2), And.intro (hi.2.1.1) (hi.2.1.2), And.intro (hi.2.2.1.1) (hi.2.2.1.2), oq_826c3458 hi.2.2.2.1, oq_78fc2d48 g1002 hi.2.1.2 b1001.2⟩ | omega) (by first | exact qk_me hm (by decide) (oq_5c7f6a1c g1002 hi.2.1.2 b1001.2) | omega) kx
          ·
            refine d_lift (fun k ws X h => z_aload_n X (x := A 179) (show cdA 220 49 = some (.aload_n 0, 1, 0, 0, 0) from rfl) (List.Mem.head _) h) ?_
            refine d_liftS (fun k s X h => s_getR X 179 (show cdA 220 50 = some (.getfield 55, 3, 12, 30, 0) from rfl) (by decide) rfl rfl h) ?_
            refine d_lift (fun k ws X h => z_load_n X (x := xv) (show cdA 220 53 = some (.iload_n 1, 1, 0, 0, 0) from rfl) (List.Mem.tail _ (List.Mem.head _)) h) ?_
            refine d_liftS (fun k s X h => z_aald X rw_215 (show cdA 220 54 = some (.aaload, 1, 0, 0, 0) from rfl) (by first | exact hi.1.1 | omega) (show xv < 12 by first | exact oq_0ddfcfee hi.1.2 | omega) (by decide) h) ?_
            refine d_lift (fun k ws X h => z_load X (x := c) (show cdA 220 55 = some (.iload 4, 2, 0, 0, 0) from rfl) (List.Mem.tail _ (List.Mem.tail _ (List.Mem.tail _ (List.Mem.tail _ (List.Mem.head _))))) h) ?_
            refine d_ald2 rw_215 (show cdA 220 57 = some (.iaload, 1, 0, 0, 0) from rfl) (show (xv : Int).toNat < 12 by first | exact oq_9c5fa447 hi.1.2 | omega) (by first | exact oq_0159bb48 g1005 hps1003 | omega) (show c < 24 by first | exact oq_127752ee g1005 hps1003 | omega) (by decide) (hcn _ (show (xv : Int).toNat < 12 by omega) _ (show (c : Int).toNat < 24 by omega)) ?_
            have b1008 : (0 : Int) ≤ (iC s1003 (190 + (xv : Int).toNat) (c : Int).toNat) ∧ (iC s1003 (190 + (xv : Int).toNat) (c : Int).toNat) ≤ 50 := rw_bd rw_215 Is1003 (show (xv : Int).toNat < 12 by first | exact oq_9c5fa447 hi.1.2 | omega) (show (c : Int).toNat < 24 by first | exact oq_200d9360 g1005 hps1003 | omega)
            refine d_lift (fun k ws X h => z_store_n X (lv' := [(3, .int (Int32.ofInt (iC s1003 (190 + (xv : Int).toNat) (c : Int).toNat))), (0, .ref (A 179)), (1, .int (Int32.ofInt xv)), (2, .int (Int32.ofInt yv)), (4, .int (Int32.ofInt c))]) (show cdA 220 58 = some (.istore_n 3, 1, 0, 0, 0) from rfl) (by decide) (fun _ h => h) h) ?_
            refine d_lift (fun k ws X h => z_inc X (x := c) (lv' := [(4, .int (Int32.ofInt (c + 1))), (3, .int (Int32.ofInt (iC s1003 (190 + (xv : Int).toNat) (c : Int).toNat))), (0, .ref (A 179)), (1, .int (Int32.ofInt xv)), (2, .int (Int32.ofInt yv))]) (show cdA 220 59 = some (.iinc 4 1, 3, 0, 0, 0) from rfl) (by decide) (List.Mem.tail _ (List.Mem.tail _ (List.Mem.tail _ (List.Mem.tail _ (List.Mem.head _))))) (fun _ h => h) h) ?_
            refine d_lift (fun k ws X h => z_goto X (t := 12) (show cdA 220 62 = some (.goto (-50), 3, 0, 0, 0) from rfl) (by decide) h) ?_
            refine d_lvs (lv := [(0, .ref (A 179)), (1, .int (Int32.ofInt xv)), (2, .int (Int32.ofInt yv)), (3, .int (Int32.ofInt (iC s1003 (190 + (xv : Int).toNat) (c : Int).toNat))), (4, .int (Int32.ofInt (c + 1)))]) (List.forall_mem_cons.mpr ⟨(List.Mem.tail _ (List.Mem.tail _ (List.Mem.head _))), (List.forall_mem_cons.mpr ⟨(List.Mem.tail _ (List.Mem.tail _ (List.Mem.tail _ (List.Mem.head _)))), (List.forall_mem_cons.mpr ⟨(List.Mem.tail _ (List.Mem.tail _ (List.Mem.tail _ (List.Mem.tail _ (List.Mem.head _))))), (List.forall_mem_cons.mpr ⟨(List.Mem.tail _ (List.Mem.head _)), (List.forall_mem_cons.mpr ⟨(List.Mem.head _), (fun q h => absurd h List.not_mem_nil)⟩)⟩)⟩)⟩)⟩) ?_
            exact ih _ xv yv (iC s1003 (190 + (xv : Int).toNat) (c : Int).toNat) (c + 1) Is1003 Gs1003 (by first | exact ⟨And.intro (hi.1.1) (hi.1.2), And.intro (hi.2.1.1) (hi.2.1.2), And.intro (b1008.1) (b1008.2), oq_826c3458 hi.2.2.2.1, oq_78fc2d48 g1002 hi.2.1.2 b1001.2⟩ | omega) (by first | exact qk_me hm (by decide) (oq_5c7f6a1c g1002 hi.2.1.2 b1001.2) | omega) kx
  refine d_lift (fun k ws X h => z_const X (show cdA 220 0 = some (.iconst 0, 1, 0, 0, 0) from rfl) h) ?_
  refine d_lift (fun k ws X h => z_store_n X (lv' := [(3, .int (Int32.ofInt 0)), (0, .ref (A 179)), (1, .int (Int32.ofInt x)), (2, .int (Int32.ofInt y))]) (show cdA 220 1 = some (.istore_n 3, 1, 0, 0, 0) from rfl) (by decide) (fun _ h => h) h) ?_
  refine d_lift (fun k ws X h => z_load_n X (x := y) (show cdA 220 2 = some (.iload_n 2, 1, 0, 0, 0) from rfl) (List.Mem.tail _ (List.Mem.tail _ (List.Mem.tail _ (List.Mem.head _)))) h) ?_
  refine d_lift (fun k ws X h => z_aload_n X (x := A 179) (show cdA 220 3 = some (.aload_n 0, 1, 0, 0, 0) from rfl) (List.Mem.tail _ (List.Mem.head _)) h) ?_
  refine d_liftS (fun k s X h => s_getR X 179 (show cdA 220 4 = some (.getfield 41, 3, 12, 25, 0) from rfl) (by decide) rfl rfl h) ?_
  refine d_lift (fun k ws X h => z_load_n X (x := x) (show cdA 220 7 = some (.iload_n 1, 1, 0, 0, 0) from rfl) (List.Mem.tail _ (List.Mem.tail _ (List.Mem.head _))) h) ?_
  refine d_ald 187 (show cdA 220 8 = some (.iaload, 1, 0, 0, 0) from rfl) (by decide) rfl (by first | exact p0.1 | omega) (show x < 12 by first | exact oq_0ddfcfee p0.2 | omega) (by decide) (hta 164 (by decide) _ (show (x).toNat < 12 by first | exact oq_9c5fa447 p0.2 | omega)) ?_
  have b1 : (0 : Int) ≤ iC s 164 (x).toNat ∧ iC s 164 (x).toNat ≤ 2 := I.2 164 _ (show (x).toNat < 12 by first | exact oq_9c5fa447 p0.2 | omega)
  refine d_lift (fun k ws X h => z_sub X (show cdA 220 9 = some (.isub, 1, 0, 0, 0) from rfl) h) ?_
  refine d_lift (fun k ws X h => z_store X (lv' := [(4, .int (Int32.ofInt (y - (iC s 164 (x).toNat)))), (3, .int (Int32.ofInt 0)), (0, .ref (A 179)), (1, .int (Int32.ofInt x)), (2, .int (Int32.ofInt y))]) (show cdA 220 10 = some (.istore 4, 2, 0, 0, 0) from rfl) (by decide) (fun _ h => h) h) ?_
  refine d_lvs (lv := [(0, .ref (A 179)), (1, .int (Int32.ofInt x)), (2, .int (Int32.ofInt y)), (3, .int (Int32.ofInt 0)), (4, .int (Int32.ofInt (y - (iC s 164 (x).toNat))))]) (List.forall_mem_cons.mpr ⟨(List.Mem.tail _ (List.Mem.tail _ (List.Mem.head _))), (List.forall_mem_cons.mpr ⟨(List.Mem.tail _ (List.Mem.tail _ (List.Mem.tail _ (List.Mem.head _)))), (List.forall_mem_cons.mpr ⟨(List.Mem.tail _ (List.Mem.tail _ (List.Mem.tail _ (List.Mem.tail _ (List.Mem.head _))))), (List.forall_mem_cons.mpr ⟨(List.Mem.tail _ (List.Mem.head _)), (List.forall_mem_cons.mpr ⟨(List.Mem.head _), (fun q h => absurd h List.not_mem_nil)⟩)⟩)⟩)⟩)⟩) ?_
  refine L12 ((26 - (y - (iC s 164 (x).toNat)) : Int).toNat + 1) s x y 0 (y - (iC s 164 (x).toNat)) I F (by first | exact ⟨And.intro (p0.1) (p0.2), And.intro (p1.1) (p1.2), And.intro (by decide) (by decide), oq_15fc5886 p1.1 b1.2, oq_0fb31b58 p1.2 b1.1⟩ | omega) (Nat.lt_succ_self _) ?_
  intro s2 x3 x4 x5 x6 Is2 Fs2 hs2
  refine d_lift (fun k ws X h => z_load_n X (x := x5) (show cdA 220 65 = some (.iload_n 3, 1, 0, 0, 0) from rfl) (List.Mem.tail _ (List.Mem.tail _ (List.Mem.tail _ (List.Mem.head _)))) h) ?_
  exact d_iret rfl rfl (Or.inl rfl) (show cdA 220 66 = some (.ireturn, 1, 0, 0, 0) from rfl) (fun _ h => h) (hQ _ _ ⟨Is2, Fs2, x5, rfl, ⟨by first | exact oq_fa4e5087 hs2.2.2.1.1 | omega, by first | exact oq_cbe526b3 hs2.2.2.1.2 | omega⟩, by first | exact ⟨hs2.2.2.1.1, hs2.2.2.1.2⟩ | omega⟩)
set_option maxHeartbeats 16000000 in
theorem d_numbersIn (G : GX l s0 D tys a0 dT) (I : Bd s) {x : Int} (p0 : 0 ≤ x ∧ x ≤ 23) {T : TT} (hti : ∀ q ∈ ([90] : List Nat), T.1 q) (hta : ∀ a ∈ ([163, 164] : List Nat), ∀ j, j < (bA a).2.2 → T.2 a j) (hcn : ∀ j, j < 12 → ∀ k, k < 24 → T.2 (190 + j) k) : CD l s0 D A dT 224 (rmN 224) [] [203] T (TU T 203 (iI s 90)) [.ref (A 179), .int (Int32.ofInt x)] s (fun o t => Bd t ∧ Fm [] [203] s t ∧ o = .inl none ∧ (True)) := by
  refine cd_of G (by decide) (Nat.le_of_ble_eq_true rfl) (fun Q hQ => ?_)
  have I0 := I
  show DS l s0 D A dT 224 (rmN 224) [] [203] (TU T 203 (iI s 90)) Q (T) 0 [(0, .ref (A 179)), (1, .int (Int32.ofInt x))] [] s
  have F : Fm [] [203] s s := fm_rf _ _ s
  have b1 : (0 : Int) ≤ iI s 90 ∧ iI s 90 ≤ 12 := I.1 90
  have L2 : ∀ (n : Nat) (t : PS) (xv c : Int), Bd t → Fm [] [203] s t → ((0 ≤ xv ∧ xv ≤ 23) ∧ 0 ≤ c ∧ c ≤ 12) → (12 - c : Int).toNat < n → (∀ (t' : PS) (xv' c' : Int), Bd t' → Fm [] [203] s t' → (iI s 90 ≤ c') → DS l s0 D A dT 224 (rmN 224) [] [203] (TU T 203 (iI s 90)) Q (TU T 203 c') 28 [(0, .ref (A 179)), (1, .int (Int32.ofInt xv')), (2, .int (Int32.ofInt c'))] [] t') → DS l s0 D A dT 224 (rmN 224) [] [203] (TU T 203 (iI s 90)) Q (TU T 203 c) 2 [(0, .ref (A 179)), (1, .int (Int32.ofInt xv)), (2, .int (Int32.ofInt c))] [] t := by
    intro n
    induction n with
    | zero =>
      intro t xv c I F hi hm kx
      exact absurd hm (Nat.not_lt_zero _)
    | succ n ih =>
      intro t xv c I F hi hm kx
      have b1001 : (0 : Int) ≤ iI t 90 ∧ iI t 90 ≤ 12 := I.1 90
      have hta1002 : ∀ a ∈ ([163, 164] : List Nat), ∀ j, j < (bA a).2.2 → (TU T 203 c).2 a j := fun a h j hj => Or.inr (hta a h j hj)
      refine d_lift (fun k ws X h => z_load_n X (x := c) (show cdA 224 2 = some (.iload_n 2, 1, 0, 0, 0) from rfl) (List.Mem.tail _ (List.Mem.tail _ (List.Mem.head _))) h) ?_
      refine d_lift (fun k ws X h => z_aload_n X (x := A 179) (show cdA 224 3 = some (.aload_n 0, 1, 0, 0, 0) from rfl) (List.Mem.head _) h) ?_
      refine d_getI 179 (show cdA 224 4 = some (.getfield 233, 3, 12, 22, 0) from rfl) (by decide) rfl rfl (hti 90 (by decide)) ?_
      have b1003 : (0 : Int) ≤ iI t 90 ∧ iI t 90 ≤ 12 := I.1 90
      have q1004 : iI t 90 = iI s 90 := fm_i F (by decide)
      refine d_br (bo_ge _ _) bx_ge (fun k ws X h1 h2 => z_icmp_ge X (t := 28) (show cdA 224 7 = some (.if_icmp .ge 21, 3, 3, 0, 0) from rfl) (by decide) ⟨by first | exact oq_fa4e5087 hi.2.1 | omega, by first | exact oq_78843a64 hi.2.2 | omega⟩ (rng_to _) h1 h2) (fun g1005 => ?_) (fun g1005 => ?_)
      ·
        refine d_lvs (lv := [(0, .ref (A 179)), (1, .int (Int32.ofInt xv)), (2, .int (Int32.ofInt c))]) (List.forall_mem_cons.mpr ⟨(List.Mem.head _), (List.forall_mem_cons.mpr ⟨(List.Mem.tail _ (List.Mem.head _)), (List.forall_mem_cons.mpr ⟨(List.Mem.tail _ (List.Mem.tail _ (List.Mem.head _))), (fun q h => absurd h List.not_mem_nil)⟩)⟩)⟩) ?_
        exact kx _ xv c I F (by first | exact oq_acf76229 g1005 q1004 | omega)
      ·
        refine d_lift (fun k ws X h => z_aload_n X (x := A 179) (show cdA 224 10 = some (.aload_n 0, 1, 0, 0, 0) from rfl) (List.Mem.head _) h) ?_
        refine d_liftS (fun k s X h => s_getR X 179 (show cdA 224 11 = some (.getfield 61, 3, 12, 32, 0) from rfl) (by decide) rfl rfl h) ?_
        refine d_lift (fun k ws X h => z_load_n X (x := c) (show cdA 224 14 = some (.iload_n 2, 1, 0, 0, 0) from rfl) (List.Mem.tail _ (List.Mem.tail _ (List.Mem.head _))) h) ?_
        refine d_lift (fun k ws X h => z_aload_n X (x := A 179) (show cdA 224 15 = some (.aload_n 0, 1, 0, 0, 0) from rfl) (List.Mem.head _) h) ?_
        refine d_lift (fun k ws X h => z_load_n X (x := c) (show cdA 224 16 = some (.iload_n 2, 1, 0, 0, 0) from rfl) (List.Mem.tail _ (List.Mem.tail _ (List.Mem.head _))) h) ?_
        refine d_lift (fun k ws X h => z_load_n X (x := xv) (show cdA 224 17 = some (.iload_n 1, 1, 0, 0, 0) from rfl) (List.Mem.tail _ (List.Mem.head _)) h) ?_
        refine d_callV 179 (As := [.int (Int32.ofInt c), .int (Int32.ofInt xv)]) (st := [.int (Int32.ofInt c), .ref (A 229)]) (show cdA 224 18 = some (.invokevirtual 303, 3, 220, 0, 0) from rfl) rfl (by decide) rfl (d_mostOf (T := TU T 203 c) G I (by first | exact ⟨hi.2.1, oq_e4d7f3c5 g1005 b1003.2⟩ | omega) (by first | exact ⟨hi.1.1, hi.1.2⟩ | omega) (fun q h => hti q ((by decide : ∀ q ∈ ([] : List Nat), q ∈ ([90] : List Nat)) q h)) (fun a h => hta1002 a ((by decide : ∀ q ∈ ([163, 164] : List Nat), q ∈ ([163, 164] : List Nat)) a h)) (fun j hj k hk => (Or.inr (hcn j hj k hk)))) ⟨rfl, rfl⟩ ⟨(show 7 + 1 ≤ 8 from oq_519c1fd2), (show 8 + (mNL (miB 220) + 11) + 122 ≤ 146 from oq_bddf4d11)⟩ (Nat.le_of_ble_eq_true rfl) (by decide) (by decide) (fun ee s1006 hq => ?_) (fun vv s1006 hq => ?_)
        · obtain ⟨Is1006, Fs1006, e1007, hv, hrs1006, hps1006⟩ := hq; cases hv
        obtain ⟨Is1006, Fs1006, e1007, hv, hrs1006, hps1006⟩ := hq
        cases hv
        have Gs1006 := fm_ts F Fs1006 (by decide) (by decide)
        have ws1006_90 : iI s1006 90 = iI t 90 := fm_i Fs1006 (by decide)
        show DS l s0 D A dT 224 (rmN 224) [] [203] (TU T 203 (iI s 90)) Q (TU T 203 c) 21 [(0, .ref (A 179)), (1, .int (Int32.ofInt xv)), (2, .int (Int32.ofInt c))] [.int (Int32.ofInt e1007), .int (Int32.ofInt c), .ref (A 229)] s1006
        refine d_ast 229 (show cdA 224 21 = some (.iastore, 1, 0, 0, 0) from rfl) (by decide) rfl (by first | exact hi.2.1 | omega) (show c < 12 by first | exact oq_f36e82a8 g1005 b1003.2 | omega) (by decide) (show 203 ∈ _ by decide) (show (0 : Int) ≤ e1007 ∧ e1007 ≤ 50 by first | exact ⟨hps1006.1, hps1006.2⟩ | omega) hrs1006 ?_
        obtain ⟨s1008, hs1008⟩ : ∃ x0, x0 = uC s1006 203 (c).toNat (Int32.ofInt e1007) := ⟨_, rfl⟩
        rw [← hs1008]
        have Is1008 : Bd s1008 := by rw [hs1008]; exact bd_C Is1006 (show (0 : Int) ≤ e1007 ∧ e1007 ≤ 50 by first | exact ⟨hps1006.1, hps1006.2⟩ | omega) hrs1006
        have Fs1008 := fm_C (i := (c).toNat) (x := Int32.ofInt e1007) Gs1006 (show 203 ∈ _ by decide)
        rw [← hs1008] at Fs1008
        have ws1008_90 : iI s1008 90 = iI s1006 90 := by rw [hs1008]; rfl
        refine d_lift (fun k ws X h => z_inc X (x := c) (lv' := [(2, .int (Int32.ofInt (c + 1))), (0, .ref (A 179)), (1, .int (Int32.ofInt xv))]) (show cdA 224 22 = some (.iinc 2 1, 3, 0, 0, 0) from rfl) (by decide) (List.Mem.tail _ (List.Mem.tail _ (List.Mem.head _))) (fun _ h => h) h) ?_
        refine d_lift (fun k ws X h => z_goto X (t := 2) (show cdA 224 25 = some (.goto (-23), 3, 0, 0, 0) from rfl) (by decide) h) ?_
        refine d_lvs (lv := [(0, .ref (A 179)), (1, .int (Int32.ofInt xv)), (2, .int (Int32.ofInt (c + 1)))]) (List.forall_mem_cons.mpr ⟨(List.Mem.tail _ (List.Mem.head _)), (List.forall_mem_cons.mpr ⟨(List.Mem.tail _ (List.Mem.tail _ (List.Mem.head _))), (List.forall_mem_cons.mpr ⟨(List.Mem.head _), (fun q h => absurd h List.not_mem_nil)⟩)⟩)⟩) ?_
        refine d_mono (T' := TU T 203 (c + 1)) (fun _ h => h) (TU_s (by omega)) ?_
        exact ih _ xv (c + 1) Is1008 Fs1008 (by first | exact ⟨And.intro (hi.1.1) (hi.1.2), oq_54f49eb5 hi.2.1, oq_4dae995e g1005 b1003.2⟩ | omega) (by first | exact qk_me hm (by decide) (oq_b575e8c1 g1005 b1003.2) | omega) kx
  refine d_lift (fun k ws X h => z_const X (show cdA 224 0 = some (.iconst 0, 1, 0, 0, 0) from rfl) h) ?_
  refine d_lift (fun k ws X h => z_store_n X (lv' := [(2, .int (Int32.ofInt 0)), (0, .ref (A 179)), (1, .int (Int32.ofInt x))]) (show cdA 224 1 = some (.istore_n 2, 1, 0, 0, 0) from rfl) (by decide) (fun _ h => h) h) ?_
  refine d_lvs (lv := [(0, .ref (A 179)), (1, .int (Int32.ofInt x)), (2, .int (Int32.ofInt 0))]) (List.forall_mem_cons.mpr ⟨(List.Mem.tail _ (List.Mem.head _)), (List.forall_mem_cons.mpr ⟨(List.Mem.tail _ (List.Mem.tail _ (List.Mem.head _))), (List.forall_mem_cons.mpr ⟨(List.Mem.head _), (fun q h => absurd h List.not_mem_nil)⟩)⟩)⟩) ?_
  refine d_mono (T' := TU T 203 0) (fun _ h => h) (TU_0 (by omega)) ?_
  refine L2 ((12 - 0 : Int).toNat + 1) s x 0 I F (by first | exact ⟨And.intro (p0.1) (p0.2), by decide, by decide⟩ | omega) (Nat.lt_succ_self _) ?_
  intro s2 x3 x4 Is2 Fs2 hs2
  have b5 : (0 : Int) ≤ iI s2 90 ∧ iI s2 90 ≤ 12 := Is2.1 90
  exact d_vret rfl (show cdA 224 28 = some (.return_, 1, 0, 0, 0) from rfl) (fun _ h => AGr_mono h (fun _ h => h) (TU_le (by omega))) (hQ _ _ ⟨Is2, Fs2, rfl, trivial⟩)
set_option maxHeartbeats 16000000 in
theorem d_readsAt (G : GX l s0 D tys a0 dT) (I : Bd s) {x : Int} (p0 : 0 ≤ x ∧ x ≤ 380) {T : TT} (hti : ∀ q ∈ ([82] : List Nat), T.1 q) (hta : ∀ a ∈ ([] : List Nat), ∀ j, j < (bA a).2.2 → T.2 a j) : CD l s0 D A dT 216 (rmN 216) [81, 75, 77, 78, 79] [] T (TI (TI (TI (TI (TI T 81) 75) 77) 78) 79) [.ref (A 179), .int (Int32.ofInt x)] s (fun o t => Bd t ∧ Fm [81, 75, 77, 78, 79] [] s t ∧ o = .inl none ∧ (iI t 77 = x ∧ iI t 78 = 0 ∧ iI t 79 = 0)) := by
  refine cd_of G (by decide) (Nat.le_of_ble_eq_true rfl) (fun Q hQ => ?_)
  have I0 := I
  show DS l s0 D A dT 216 (rmN 216) [81, 75, 77, 78, 79] [] (TI (TI (TI (TI (TI T 81) 75) 77) 78) 79) Q (T) 0 [(0, .ref (A 179)), (1, .int (Int32.ofInt x))] [] s
  have F : Fm [81, 75, 77, 78, 79] [] s s := fm_rf _ _ s
  have b1 : (0 : Int) ≤ iI s 77 ∧ iI s 77 ≤ 400 := I.1 77
  have b2 : (0 : Int) ≤ iI s 78 ∧ iI s 78 ≤ 8 := I.1 78
  have b3 : (0 : Int) ≤ iI s 79 ∧ iI s 79 ≤ 9 := I.1 79
  refine d_lift (fun k ws X h => z_aload_n X (x := A 179) (show cdA 216 0 = some (.aload_n 0, 1, 0, 0, 0) from rfl) (List.Mem.head _) h) ?_
  refine d_lift (fun k ws X h => z_const X (show cdA 216 1 = some (.iconst 1, 1, 0, 0, 0) from rfl) h) ?_
  refine d_putI 179 (show cdA 216 2 = some (.putfield 181, 3, 12, 8, 0) from rfl) (by decide) rfl rfl (by decide) rfl rfl rfl (show 81 ∈ _ by decide) (show (0 : Int) ≤ 1 ∧ 1 ≤ 1 by first | exact ⟨by decide, by decide⟩ | omega) (by decide) ?_
  have hti4 : ∀ q ∈ [81, 82], (TI (T) 81).1 q := hti_g hti
  obtain ⟨s5, hs5⟩ : ∃ x0, x0 = uI s 81 (Int32.ofInt 1) := ⟨_, rfl⟩
  rw [← hs5]
  have Is5 : Bd s5 := by rw [hs5]; exact bd_I I (show (0 : Int) ≤ 1 ∧ 1 ≤ 1 by first | exact ⟨by decide, by decide⟩ | omega) (by decide)
  have Fs5 := fm_I (x := Int32.ofInt 1) F (show 81 ∈ _ by decide)
  rw [← hs5] at Fs5
  have vs5 : iI s5 81 = 1 := by rw [hs5]; exact iI_u (by decide)
  have ws5_77 : iI s5 77 = iI s 77 := by rw [hs5]; rfl
  have ws5_78 : iI s5 78 = iI s 78 := by rw [hs5]; rfl
  have ws5_79 : iI s5 79 = iI s 79 := by rw [hs5]; rfl
  refine d_lift (fun k ws X h => z_aload_n X (x := A 179) (show cdA 216 5 = some (.aload_n 0, 1, 0, 0, 0) from rfl) (List.Mem.head _) h) ?_
  refine d_lift (fun k ws X h => z_aload_n X (x := A 179) (show cdA 216 6 = some (.aload_n 0, 1, 0, 0, 0) from rfl) (List.Mem.head _) h) ?_
  refine d_getI 179 (show cdA 216 7 = some (.getfield 294, 3, 12, 11, 0) from rfl) (by decide) rfl rfl (hti4 82 (by decide)) ?_
  have b6 : (0 : Int) ≤ iI s5 82 ∧ iI s5 82 ≤ 200 := Is5.1 82
  refine d_putI 179 (show cdA 216 10 = some (.putfield 178, 3, 12, 2, 0) from rfl) (by decide) rfl rfl (by decide) rfl rfl rfl (show 75 ∈ _ by decide) (show (0 : Int) ≤ (iI s5 82) ∧ (iI s5 82) ≤ 200 by first | exact ⟨b6.1, b6.2⟩ | omega) (rng_to _) ?_
  have hti7 : ∀ q ∈ [75, 81, 82], (TI (TI (T) 81) 75).1 q := hti_g hti4
  obtain ⟨s8, hs8⟩ : ∃ x0, x0 = uI s5 75 (Int32.ofInt (iI s5 82)) := ⟨_, rfl⟩
  rw [← hs8]
  have Is8 : Bd s8 := by rw [hs8]; exact bd_I Is5 (show (0 : Int) ≤ (iI s5 82) ∧ (iI s5 82) ≤ 200 by first | exact ⟨b6.1, b6.2⟩ | omega) (rng_to _)
  have Fs8 := fm_I (x := Int32.ofInt (iI s5 82)) Fs5 (show 75 ∈ _ by decide)
  rw [← hs8] at Fs8
  have vs8 : iI s8 75 = (iI s5 82) := by rw [hs8]; exact iI_u (rng_to _)
  have ws8_77 : iI s8 77 = iI s5 77 := by rw [hs8]; rfl
  have ws8_78 : iI s8 78 = iI s5 78 := by rw [hs8]; rfl
  have ws8_79 : iI s8 79 = iI s5 79 := by rw [hs8]; rfl
  refine d_lift (fun k ws X h => z_aload_n X (x := A 179) (show cdA 216 13 = some (.aload_n 0, 1, 0, 0, 0) from rfl) (List.Mem.head _) h) ?_
  refine d_lift (fun k ws X h => z_load_n X (x := x) (show cdA 216 14 = some (.iload_n 1, 1, 0, 0, 0) from rfl) (List.Mem.tail _ (List.Mem.head _)) h) ?_
  refine d_putI 179 (show cdA 216 15 = some (.putfield 184, 3, 12, 4, 0) from rfl) (by decide) rfl rfl (by decide) rfl rfl rfl (show 77 ∈ _ by decide) (show (0 : Int) ≤ x ∧ x ≤ 400 by first | exact ⟨p0.1, oq_6c55e2f6 p0.2⟩ | omega) ⟨by first | exact oq_fa4e5087 p0.1 | omega, by first | exact oq_5d668942 p0.2 | omega⟩ ?_
  have hti9 : ∀ q ∈ [77, 75, 81, 82], (TI (TI (TI (T) 81) 75) 77).1 q := hti_g hti7
  obtain ⟨s10, hs10⟩ : ∃ x0, x0 = uI s8 77 (Int32.ofInt x) := ⟨_, rfl⟩
  rw [← hs10]
  have Is10 : Bd s10 := by rw [hs10]; exact bd_I Is8 (show (0 : Int) ≤ x ∧ x ≤ 400 by first | exact ⟨p0.1, oq_6c55e2f6 p0.2⟩ | omega) ⟨by first | exact oq_fa4e5087 p0.1 | omega, by first | exact oq_5d668942 p0.2 | omega⟩
  have Fs10 := fm_I (x := Int32.ofInt x) Fs8 (show 77 ∈ _ by decide)
  rw [← hs10] at Fs10
  have vs10 : iI s10 77 = x := by rw [hs10]; exact iI_u ⟨by first | exact oq_fa4e5087 p0.1 | omega, by first | exact oq_5d668942 p0.2 | omega⟩
  have ws10_78 : iI s10 78 = iI s8 78 := by rw [hs10]; rfl
  have ws10_79 : iI s10 79 = iI s8 79 := by rw [hs10]; rfl
  refine d_lift (fun k ws X h => z_aload_n X (x := A 179) (show cdA 216 18 = some (.aload_n 0, 1, 0, 0, 0) from rfl) (List.Mem.head _) h) ?_
  refine d_lift (fun k ws X h => z_const X (show cdA 216 19 = some (.iconst 0, 1, 0, 0, 0) from rfl) h) ?_
  refine d_putI 179 (show cdA 216 20 = some (.putfield 213, 3, 12, 5, 0) from rfl) (by decide) rfl rfl (by decide) rfl rfl rfl (show 78 ∈ _ by decide) (show (0 : Int) ≤ 0 ∧ 0 ≤ 8 by first | exact ⟨by decide, by decide⟩ | omega) (by decide) ?_
  have hti11 : ∀ q ∈ [78, 77, 75, 81, 82], (TI (TI (TI (TI (T) 81) 75) 77) 78).1 q := hti_g hti9
  obtain ⟨s12, hs12⟩ : ∃ x0, x0 = uI s10 78 (Int32.ofInt 0) := ⟨_, rfl⟩
  rw [← hs12]
  have Is12 : Bd s12 := by rw [hs12]; exact bd_I Is10 (show (0 : Int) ≤ 0 ∧ 0 ≤ 8 by first | exact ⟨by decide, by decide⟩ | omega) (by decide)
  have Fs12 := fm_I (x := Int32.ofInt 0) Fs10 (show 78 ∈ _ by decide)
  rw [← hs12] at Fs12
  have vs12 : iI s12 78 = 0 := by rw [hs12]; exact iI_u (by decide)
  have ws12_77 : iI s12 77 = iI s10 77 := by rw [hs12]; rfl
  have ws12_79 : iI s12 79 = iI s10 79 := by rw [hs12]; rfl
  refine d_lift (fun k ws X h => z_aload_n X (x := A 179) (show cdA 216 23 = some (.aload_n 0, 1, 0, 0, 0) from rfl) (List.Mem.head _) h) ?_
  refine d_lift (fun k ws X h => z_const X (show cdA 216 24 = some (.iconst 0, 1, 0, 0, 0) from rfl) h) ?_
  refine d_putI 179 (show cdA 216 25 = some (.putfield 191, 3, 12, 6, 0) from rfl) (by decide) rfl rfl (by decide) rfl rfl rfl (show 79 ∈ _ by decide) (show (0 : Int) ≤ 0 ∧ 0 ≤ 9 by first | exact ⟨by decide, by decide⟩ | omega) (by decide) ?_
  have hti13 : ∀ q ∈ [79, 78, 77, 75, 81, 82], (TI (TI (TI (TI (TI (T) 81) 75) 77) 78) 79).1 q := hti_g hti11
  obtain ⟨s14, hs14⟩ : ∃ x0, x0 = uI s12 79 (Int32.ofInt 0) := ⟨_, rfl⟩
  rw [← hs14]
  have Is14 : Bd s14 := by rw [hs14]; exact bd_I Is12 (show (0 : Int) ≤ 0 ∧ 0 ≤ 9 by first | exact ⟨by decide, by decide⟩ | omega) (by decide)
  have Fs14 := fm_I (x := Int32.ofInt 0) Fs12 (show 79 ∈ _ by decide)
  rw [← hs14] at Fs14
  have vs14 : iI s14 79 = 0 := by rw [hs14]; exact iI_u (by decide)
  have ws14_77 : iI s14 77 = iI s12 77 := by rw [hs14]; rfl
  have ws14_78 : iI s14 78 = iI s12 78 := by rw [hs14]; rfl
  exact d_vret rfl (show cdA 216 28 = some (.return_, 1, 0, 0, 0) from rfl) (fun _ h => h) (hQ _ _ ⟨Is14, Fs14, rfl, by first | exact ⟨oq_d0d2714e ws14_77 vs10 ws12_77, oq_e5e5d3d6 ws14_78 vs12, vs14⟩ | omega⟩)
set_option maxHeartbeats 16000000 in
theorem d_hasCells (G : GX l s0 D tys a0 dT) (I : Bd s) {x : Int} (p0 : rng x) {T : TT} (hti : ∀ q ∈ ([] : List Nat), T.1 q) (hta : ∀ a ∈ ([228] : List Nat), ∀ j, j < (bA a).2.2 → T.2 a j) : CD l s0 D A dT 233 (rmN 233) [] [] T (T) [.ref (A 179), .int (Int32.ofInt x)] s (fun o t => Bd t ∧ Fm [] [] s t ∧ ∃ e, o = .inl (some (.int (Int32.ofInt e))) ∧ rng e ∧ (e = 0 ∨ e = 1)) := by
  refine cd_of G (by decide) (Nat.le_of_ble_eq_true rfl) (fun Q hQ => ?_)
  have I0 := I
  show DS l s0 D A dT 233 (rmN 233) [] [] (T) Q (T) 0 [(0, .ref (A 179)), (1, .int (Int32.ofInt x))] [] s
  have F : Fm [] [] s s := fm_rf _ _ s
  have L2 : ∀ (n : Nat) (t : PS) (x1 c : Int), Bd t → Fm [] [] s t → (rng x1 ∧ 0 ≤ c ∧ c ≤ 128) → (128 - c : Int).toNat < n → (∀ (t' : PS) (x1' c' : Int), Bd t' → Fm [] [] s t' → (rng x1' ∧ 0 ≤ c' ∧ c' ≤ 128) → DS l s0 D A dT 233 (rmN 233) [] [] (T) Q (T) 27 [(0, .ref (A 179)), (1, .int (Int32.ofInt x1')), (2, .int (Int32.ofInt c'))] [] t') → DS l s0 D A dT 233 (rmN 233) [] [] (T) Q (T) 2 [(0, .ref (A 179)), (1, .int (Int32.ofInt x1)), (2, .int (Int32.ofInt c))] [] t := by
    intro n
    induction n with
    | zero =>
      intro t x1 c I F hi hm kx
      exact absurd hm (Nat.not_lt_zero _)
    | succ n ih =>
      intro t x1 c I F hi hm kx
      refine d_lift (fun k ws X h => z_load_n X (x := c) (show cdA 233 2 = some (.iload_n 2, 1, 0, 0, 0) from rfl) (List.Mem.tail _ (List.Mem.tail _ (List.Mem.head _))) h) ?_
      refine d_lift (fun k ws X h => z_sipush X (show cdA 233 3 = some (.sipush 128, 3, 0, 0, 128) from rfl) h) ?_
      refine d_br (bo_ge _ _) bx_ge (fun k ws X h1 h2 => z_icmp_ge X (t := 27) (show cdA 233 6 = some (.if_icmp .ge 21, 3, 3, 0, 0) from rfl) (by decide) ⟨by first | exact oq_fa4e5087 hi.2.1 | omega, by first | exact oq_4ee82282 hi.2.2 | omega⟩ (by decide) h1 h2) (fun g1001 => ?_) (fun g1001 => ?_)
      ·
        refine d_lvs (lv := [(0, .ref (A 179)), (1, .int (Int32.ofInt x1)), (2, .int (Int32.ofInt c))]) (List.forall_mem_cons.mpr ⟨(List.Mem.head _), (List.forall_mem_cons.mpr ⟨(List.Mem.tail _ (List.Mem.head _)), (List.forall_mem_cons.mpr ⟨(List.Mem.tail _ (List.Mem.tail _ (List.Mem.head _))), (fun q h => absurd h List.not_mem_nil)⟩)⟩)⟩) ?_
        exact kx _ x1 c I F (by first | exact ⟨And.intro (hi.1.1) (hi.1.2), hi.2.1, hi.2.2⟩ | omega)
      ·
        refine d_lift (fun k ws X h => z_aload_n X (x := A 179) (show cdA 233 9 = some (.aload_n 0, 1, 0, 0, 0) from rfl) (List.Mem.head _) h) ?_
        refine d_liftS (fun k s X h => s_getR X 179 (show cdA 233 10 = some (.getfield 70, 3, 12, 35, 0) from rfl) (by decide) rfl rfl h) ?_
        refine d_lift (fun k ws X h => z_load_n X (x := c) (show cdA 233 13 = some (.iload_n 2, 1, 0, 0, 0) from rfl) (List.Mem.tail _ (List.Mem.tail _ (List.Mem.head _))) h) ?_
        refine d_ald 256 (show cdA 233 14 = some (.iaload, 1, 0, 0, 0) from rfl) (by decide) rfl (by first | exact hi.2.1 | omega) (show c < 128 by first | exact g1001 | omega) (by decide) (hta 228 (by decide) _ (show (c).toNat < 128 by first | exact oq_afb89947 g1001 | omega)) ?_
        have b1002 : ((-1) : Int) ≤ iC t 228 (c).toNat ∧ iC t 228 (c).toNat ≤ 7 := I.2 228 _ (show (c).toNat < 128 by first | exact oq_afb89947 g1001 | omega)
        refine d_lift (fun k ws X h => z_load_n X (x := x1) (show cdA 233 15 = some (.iload_n 1, 1, 0, 0, 0) from rfl) (List.Mem.tail _ (List.Mem.head _)) h) ?_
        refine d_br (bo_ne _ _) bx_ne (fun k ws X h1 h2 => z_icmp_ne X (t := 21) (show cdA 233 16 = some (.if_icmp .ne 5, 3, 1, 0, 0) from rfl) (by decide) (rng_to _) ⟨by first | exact hi.1.1 | omega, by first | exact hi.1.2 | omega⟩ h1 h2) (fun g1003 => ?_) (fun g1003 => ?_)
        ·
          refine d_lift (fun k ws X h => z_inc X (x := c) (lv' := [(2, .int (Int32.ofInt (c + 1))), (0, .ref (A 179)), (1, .int (Int32.ofInt x1))]) (show cdA 233 21 = some (.iinc 2 1, 3, 0, 0, 0) from rfl) (by decide) (List.Mem.tail _ (List.Mem.tail _ (List.Mem.head _))) (fun _ h => h) h) ?_
          refine d_lift (fun k ws X h => z_goto X (t := 2) (show cdA 233 24 = some (.goto (-22), 3, 0, 0, 0) from rfl) (by decide) h) ?_
          refine d_lvs (lv := [(0, .ref (A 179)), (1, .int (Int32.ofInt x1)), (2, .int (Int32.ofInt (c + 1)))]) (List.forall_mem_cons.mpr ⟨(List.Mem.tail _ (List.Mem.head _)), (List.forall_mem_cons.mpr ⟨(List.Mem.tail _ (List.Mem.tail _ (List.Mem.head _))), (List.forall_mem_cons.mpr ⟨(List.Mem.head _), (fun q h => absurd h List.not_mem_nil)⟩)⟩)⟩) ?_
          exact ih _ x1 (c + 1) I F (by first | exact ⟨And.intro (hi.1.1) (hi.1.2), oq_54f49eb5 hi.2.1, oq_d2afb425 g1001⟩ | omega) (by first | exact qk_me hm (by decide) (oq_c268b7bd g1001) | omega) kx
        ·
          refine d_lift (fun k ws X h => z_const X (show cdA 233 19 = some (.iconst 1, 1, 0, 0, 0) from rfl) h) ?_
          exact d_iret rfl (nar_ret (by first | exact Or.inr (by decide) | omega)) (Or.inr rfl) (show cdA 233 20 = some (.ireturn, 1, 0, 0, 0) from rfl) (fun _ h => h) (hQ _ _ ⟨I, F, 1, rfl, (by decide), by first | exact Or.inr (by decide) | omega⟩)
  refine d_lift (fun k ws X h => z_const X (show cdA 233 0 = some (.iconst 0, 1, 0, 0, 0) from rfl) h) ?_
  refine d_lift (fun k ws X h => z_store_n X (lv' := [(2, .int (Int32.ofInt 0)), (0, .ref (A 179)), (1, .int (Int32.ofInt x))]) (show cdA 233 1 = some (.istore_n 2, 1, 0, 0, 0) from rfl) (by decide) (fun _ h => h) h) ?_
  refine d_lvs (lv := [(0, .ref (A 179)), (1, .int (Int32.ofInt x)), (2, .int (Int32.ofInt 0))]) (List.forall_mem_cons.mpr ⟨(List.Mem.tail _ (List.Mem.head _)), (List.forall_mem_cons.mpr ⟨(List.Mem.tail _ (List.Mem.tail _ (List.Mem.head _))), (List.forall_mem_cons.mpr ⟨(List.Mem.head _), (fun q h => absurd h List.not_mem_nil)⟩)⟩)⟩) ?_
  refine L2 ((128 - 0 : Int).toNat + 1) s x 0 I F (by first | exact ⟨And.intro (p0.1) (p0.2), by decide, by decide⟩ | omega) (Nat.lt_succ_self _) ?_
  intro s1 x2 x3 Is1 Fs1 hs1
  refine d_lift (fun k ws X h => z_const X (show cdA 233 27 = some (.iconst 0, 1, 0, 0, 0) from rfl) h) ?_
  exact d_iret rfl (nar_ret (by first | exact Or.inl (by decide) | omega)) (Or.inr rfl) (show cdA 233 28 = some (.ireturn, 1, 0, 0, 0) from rfl) (fun _ h => h) (hQ _ _ ⟨Is1, Fs1, 0, rfl, (by decide), by first | exact Or.inl (by decide) | omega⟩)
set_option maxHeartbeats 16000000 in
theorem d_groupOf (G : GX l s0 D tys a0 dT) (I : Bd s) {x y : Int} (p0 : 0 ≤ x ∧ x ≤ 5) (p1 : 0 ≤ y ∧ y ≤ 7) {T : TT} (hti : ∀ q ∈ ([] : List Nat), T.1 q) (hta : ∀ a ∈ ([237] : List Nat), ∀ j, j < (bA a).2.2 → T.2 a j) : CD l s0 D A dT 265 (rmN 265) [] [] T (T) [.ref (A 179), .int (Int32.ofInt x), .int (Int32.ofInt y)] s (fun o t => Bd t ∧ Fm [] [] s t ∧ ∃ e, o = .inl (some (.int (Int32.ofInt e))) ∧ rng e ∧ (0 ≤ e ∧ e ≤ 7)) := by
  refine cd_of G (by decide) (Nat.le_of_ble_eq_true rfl) (fun Q hQ => ?_)
  have I0 := I
  show DS l s0 D A dT 265 (rmN 265) [] [] (T) Q (T) 0 [(0, .ref (A 179)), (1, .int (Int32.ofInt x)), (2, .int (Int32.ofInt y))] [] s
  have F : Fm [] [] s s := fm_rf _ _ s
  refine d_lift (fun k ws X h => z_aload_n X (x := A 179) (show cdA 265 0 = some (.aload_n 0, 1, 0, 0, 0) from rfl) (List.Mem.head _) h) ?_
  refine d_liftS (fun k s X h => s_getR X 179 (show cdA 265 1 = some (.getfield 101, 3, 12, 52, 0) from rfl) (by decide) rfl rfl h) ?_
  refine d_lift (fun k ws X h => z_load_n X (x := x) (show cdA 265 4 = some (.iload_n 1, 1, 0, 0, 0) from rfl) (List.Mem.tail _ (List.Mem.head _)) h) ?_
  refine d_ald 265 (show cdA 265 5 = some (.iaload, 1, 0, 0, 0) from rfl) (by decide) rfl (by first | exact p0.1 | omega) (show x < 6 by first | exact oq_9207f8f8 p0.2 | omega) (by decide) (hta 237 (by decide) _ (show (x).toNat < 6 by first | exact oq_78f9cd89 p0.2 | omega)) ?_
  have b1 : (0 : Int) ≤ iC s 237 (x).toNat ∧ iC s 237 (x).toNat ≤ 16777215 := I.2 237 _ (show (x).toNat < 6 by first | exact oq_78f9cd89 p0.2 | omega)
  refine d_lift (fun k ws X h => z_const X (show cdA 265 6 = some (.iconst 3, 1, 0, 0, 0) from rfl) h) ?_
  refine d_lift (fun k ws X h => z_load_n X (x := y) (show cdA 265 7 = some (.iload_n 2, 1, 0, 0, 0) from rfl) (List.Mem.tail _ (List.Mem.tail _ (List.Mem.head _))) h) ?_
  refine d_lift (fun k ws X h => z_mul X (show cdA 265 8 = some (.imul, 1, 0, 0, 0) from rfl) h) ?_
  refine d_lift (fun k ws X h => z_bshr X (show cdA 265 9 = some (.ishr, 1, 0, 0, 0) from rfl) h) ?_
  refine d_any (fun y2 hy2 => ?_)
  refine d_lift (fun k ws X h => z_bipush X (show cdA 265 10 = some (.bipush 7, 2, 0, 0, 7) from rfl) h) ?_
  refine d_andm (show cdA 265 12 = some (.iand, 1, 0, 0, 0) from rfl) (by decide) (by decide) (fun y3 hy3 gy3 => ?_)
  exact d_iret rfl rfl (Or.inl rfl) (show cdA 265 13 = some (.ireturn, 1, 0, 0, 0) from rfl) (fun _ h => h) (hQ _ _ ⟨I, F, y3, rfl, ⟨by first | exact oq_fa4e5087 hy3 | omega, by first | exact oq_0e78ca7d gy3 | omega⟩, by first | exact ⟨hy3, gy3⟩ | omega⟩)
set_option maxHeartbeats 16000000 in
theorem d_setOf (G : GX l s0 D tys a0 dT) (I : Bd s) {x : Int} (p0 : rng x) {T : TT} (hti : ∀ q ∈ ([] : List Nat), T.1 q) (hta : ∀ a ∈ ([228] : List Nat), ∀ j, j < (bA a).2.2 → T.2 a j) : CD l s0 D A dT 230 (rmN 230) [] [230] T (TU T 230 128) [.ref (A 179), .int (Int32.ofInt x)] s (fun o t => Bd t ∧ Fm [] [230] s t ∧ o = .inl none ∧ (True)) := by
  refine cd_of G (by decide) (Nat.le_of_ble_eq_true rfl) (fun Q hQ => ?_)
  have I0 := I
  show DS l s0 D A dT 230 (rmN 230) [] [230] (TU T 230 128) Q (T) 0 [(0, .ref (A 179)), (1, .int (Int32.ofInt x))] [] s
  have F : Fm [] [230] s s := fm_rf _ _ s
  have L2 : ∀ (n : Nat) (t : PS) (x1 c : Int), Bd t → Fm [] [230] s t → (rng x1 ∧ 0 ≤ c ∧ c ≤ 128) → (128 - c : Int).toNat < n → (∀ (t' : PS) (x1' c' : Int), Bd t' → Fm [] [230] s t' → (128 ≤ c') → DS l s0 D A dT 230 (rmN 230) [] [230] (TU T 230 128) Q (TU T 230 c') 36 [(0, .ref (A 179)), (1, .int (Int32.ofInt x1')), (2, .int (Int32.ofInt c'))] [] t') → DS l s0 D A dT 230 (rmN 230) [] [230] (TU T 230 128) Q (TU T 230 c) 2 [(0, .ref (A 179)), (1, .int (Int32.ofInt x1)), (2, .int (Int32.ofInt c))] [] t := by
    intro n
    induction n with
    | zero =>
      intro t x1 c I F hi hm kx
      exact absurd hm (Nat.not_lt_zero _)
    | succ n ih =>
      intro t x1 c I F hi hm kx
      have hta1001 : ∀ a ∈ ([228] : List Nat), ∀ j, j < (bA a).2.2 → (TU T 230 c).2 a j := fun a h j hj => Or.inr (hta a h j hj)
      refine d_lift (fun k ws X h => z_load_n X (x := c) (show cdA 230 2 = some (.iload_n 2, 1, 0, 0, 0) from rfl) (List.Mem.tail _ (List.Mem.tail _ (List.Mem.head _))) h) ?_
      refine d_lift (fun k ws X h => z_sipush X (show cdA 230 3 = some (.sipush 128, 3, 0, 0, 128) from rfl) h) ?_
      refine d_br (bo_ge _ _) bx_ge (fun k ws X h1 h2 => z_icmp_ge X (t := 36) (show cdA 230 6 = some (.if_icmp .ge 30, 3, 3, 0, 0) from rfl) (by decide) ⟨by first | exact oq_fa4e5087 hi.2.1 | omega, by first | exact oq_4ee82282 hi.2.2 | omega⟩ (by decide) h1 h2) (fun g1002 => ?_) (fun g1002 => ?_)
      ·
        refine d_lvs (lv := [(0, .ref (A 179)), (1, .int (Int32.ofInt x1)), (2, .int (Int32.ofInt c))]) (List.forall_mem_cons.mpr ⟨(List.Mem.head _), (List.forall_mem_cons.mpr ⟨(List.Mem.tail _ (List.Mem.head _)), (List.forall_mem_cons.mpr ⟨(List.Mem.tail _ (List.Mem.tail _ (List.Mem.head _))), (fun q h => absurd h List.not_mem_nil)⟩)⟩)⟩) ?_
        exact kx _ x1 c I F (by first | exact g1002 | omega)
      ·
        refine d_lift (fun k ws X h => z_aload_n X (x := A 179) (show cdA 230 9 = some (.aload_n 0, 1, 0, 0, 0) from rfl) (List.Mem.head _) h) ?_
        refine d_liftS (fun k s X h => s_getR X 179 (show cdA 230 10 = some (.getfield 76, 3, 12, 37, 0) from rfl) (by decide) rfl rfl h) ?_
        refine d_lift (fun k ws X h => z_load_n X (x := c) (show cdA 230 13 = some (.iload_n 2, 1, 0, 0, 0) from rfl) (List.Mem.tail _ (List.Mem.tail _ (List.Mem.head _))) h) ?_
        refine d_lift (fun k ws X h => z_aload_n X (x := A 179) (show cdA 230 14 = some (.aload_n 0, 1, 0, 0, 0) from rfl) (List.Mem.head _) h) ?_
        refine d_liftS (fun k s X h => s_getR X 179 (show cdA 230 15 = some (.getfield 70, 3, 12, 35, 0) from rfl) (by decide) rfl rfl h) ?_
        refine d_lift (fun k ws X h => z_load_n X (x := c) (show cdA 230 18 = some (.iload_n 2, 1, 0, 0, 0) from rfl) (List.Mem.tail _ (List.Mem.tail _ (List.Mem.head _))) h) ?_
        refine d_ald 256 (show cdA 230 19 = some (.iaload, 1, 0, 0, 0) from rfl) (by decide) rfl (by first | exact hi.2.1 | omega) (show c < 128 by first | exact g1002 | omega) (by decide) (hta1001 228 (by decide) _ (show (c).toNat < 128 by first | exact oq_afb89947 g1002 | omega)) ?_
        have b1003 : ((-1) : Int) ≤ iC t 228 (c).toNat ∧ iC t 228 (c).toNat ≤ 7 := I.2 228 _ (show (c).toNat < 128 by first | exact oq_afb89947 g1002 | omega)
        refine d_lift (fun k ws X h => z_load_n X (x := x1) (show cdA 230 20 = some (.iload_n 1, 1, 0, 0, 0) from rfl) (List.Mem.tail _ (List.Mem.head _)) h) ?_
        have N1004 : ∀ e1005 : Int, ((((iC t 228 (c).toNat) ≠ x1) ∧ e1005 = 0) ∨ (((iC t 228 (c).toNat) = x1) ∧ e1005 = 1)) → DS l s0 D A dT 230 (rmN 230) [] [230] (TU T 230 128) Q (TU T 230 c) 29 [(0, .ref (A 179)), (1, .int (Int32.ofInt x1)), (2, .int (Int32.ofInt c))] [.int (Int32.ofInt e1005), .int (Int32.ofInt c), .ref (A 258)] t := by
          intro e1005 he1005
          have re1005 : 0 ≤ e1005 ∧ e1005 ≤ 1 := by omega
          refine d_zast 258 (show cdA 230 29 = some (.bastore, 1, 0, 0, 0) from rfl) (by decide) rfl (by first | exact hi.2.1 | omega) (show c < 128 by first | exact g1002 | omega) (by decide) (by first | exact oq_4cdb41ba re1005.2 re1005.1 he1005 | omega) (show 230 ∈ _ by decide) (show (0 : Int) ≤ e1005 ∧ e1005 ≤ 1 by first | exact ⟨re1005.1, re1005.2⟩ | omega) ⟨by first | exact oq_fa4e5087 re1005.1 | omega, by first | exact oq_22e1e6b0 re1005.2 | omega⟩ ?_
          obtain ⟨s1006, hs1006⟩ : ∃ x0, x0 = uC t 230 (c).toNat (Int32.ofInt e1005) := ⟨_, rfl⟩
          rw [← hs1006]
          have Is1006 : Bd s1006 := by rw [hs1006]; exact bd_C I (show (0 : Int) ≤ e1005 ∧ e1005 ≤ 1 by first | exact ⟨re1005.1, re1005.2⟩ | omega) ⟨by first | exact oq_fa4e5087 re1005.1 | omega, by first | exact oq_22e1e6b0 re1005.2 | omega⟩
          have Fs1006 := fm_C (i := (c).toNat) (x := Int32.ofInt e1005) F (show 230 ∈ _ by decide)
          rw [← hs1006] at Fs1006
          refine d_lift (fun k ws X h => z_inc X (x := c) (lv' := [(2, .int (Int32.ofInt (c + 1))), (0, .ref (A 179)), (1, .int (Int32.ofInt x1))]) (show cdA 230 30 = some (.iinc 2 1, 3, 0, 0, 0) from rfl) (by decide) (List.Mem.tail _ (List.Mem.tail _ (List.Mem.head _))) (fun _ h => h) h) ?_
          refine d_lift (fun k ws X h => z_goto X (t := 2) (show cdA 230 33 = some (.goto (-31), 3, 0, 0, 0) from rfl) (by decide) h) ?_
          refine d_lvs (lv := [(0, .ref (A 179)), (1, .int (Int32.ofInt x1)), (2, .int (Int32.ofInt (c + 1)))]) (List.forall_mem_cons.mpr ⟨(List.Mem.tail _ (List.Mem.head _)), (List.forall_mem_cons.mpr ⟨(List.Mem.tail _ (List.Mem.tail _ (List.Mem.head _))), (List.forall_mem_cons.mpr ⟨(List.Mem.head _), (fun q h => absurd h List.not_mem_nil)⟩)⟩)⟩) ?_
          refine d_mono (T' := TU T 230 (c + 1)) (fun _ h => h) (TU_s (by omega)) ?_
          exact ih _ x1 (c + 1) Is1006 Fs1006 (by first | exact ⟨And.intro (hi.1.1) (hi.1.2), oq_54f49eb5 hi.2.1, oq_d2afb425 g1002⟩ | omega) (by first | exact qk_me hm (by decide) (oq_c268b7bd g1002) | omega) kx
        refine d_br (bo_ne _ _) bx_ne (fun k ws X h1 h2 => z_icmp_ne X (t := 28) (show cdA 230 21 = some (.if_icmp .ne 7, 3, 1, 0, 0) from rfl) (by decide) (rng_to _) ⟨by first | exact hi.1.1 | omega, by first | exact hi.1.2 | omega⟩ h1 h2) (fun g1007 => ?_) (fun g1007 => ?_)
        ·
          refine d_lift (fun k ws X h => z_const X (show cdA 230 28 = some (.iconst 0, 1, 0, 0, 0) from rfl) h) ?_
          exact N1004 _ (Or.inl ⟨g1007, rfl⟩)
        ·
          refine d_lift (fun k ws X h => z_const X (show cdA 230 24 = some (.iconst 1, 1, 0, 0, 0) from rfl) h) ?_
          refine d_lift (fun k ws X h => z_goto X (t := 29) (show cdA 230 25 = some (.goto 4, 3, 0, 0, 0) from rfl) (by decide) h) ?_
          exact N1004 _ (Or.inr (⟨g1007, rfl⟩))
  refine d_lift (fun k ws X h => z_const X (show cdA 230 0 = some (.iconst 0, 1, 0, 0, 0) from rfl) h) ?_
  refine d_lift (fun k ws X h => z_store_n X (lv' := [(2, .int (Int32.ofInt 0)), (0, .ref (A 179)), (1, .int (Int32.ofInt x))]) (show cdA 230 1 = some (.istore_n 2, 1, 0, 0, 0) from rfl) (by decide) (fun _ h => h) h) ?_
  refine d_lvs (lv := [(0, .ref (A 179)), (1, .int (Int32.ofInt x)), (2, .int (Int32.ofInt 0))]) (List.forall_mem_cons.mpr ⟨(List.Mem.tail _ (List.Mem.head _)), (List.forall_mem_cons.mpr ⟨(List.Mem.tail _ (List.Mem.tail _ (List.Mem.head _))), (List.forall_mem_cons.mpr ⟨(List.Mem.head _), (fun q h => absurd h List.not_mem_nil)⟩)⟩)⟩) ?_
  refine d_mono (T' := TU T 230 0) (fun _ h => h) (TU_0 (by omega)) ?_
  refine L2 ((128 - 0 : Int).toNat + 1) s x 0 I F (by first | exact ⟨And.intro (p0.1) (p0.2), by decide, by decide⟩ | omega) (Nat.lt_succ_self _) ?_
  intro s1 x2 x3 Is1 Fs1 hs1
  exact d_vret rfl (show cdA 230 36 = some (.return_, 1, 0, 0, 0) from rfl) (fun _ h => AGr_mono h (fun _ h => h) (TU_le (by omega))) (hQ _ _ ⟨Is1, Fs1, rfl, trivial⟩)
end M45
