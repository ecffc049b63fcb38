/-! Determined: listen -/
section M46
variable {l : Launch} {s0 : State} {D : va_G} {tys : List (ClassId × FieldType)} {a0 : Array Value} {A : Nat → Nat} {dT : Nat → ClassId} {s : PS}
set_option maxHeartbeats 16000000 in
theorem d_listen (G : GX l s0 D tys a0 dT) (I : Bd s) (jNW : NW s)  {T : TT} (hti : ∀ q ∈ ([90, 89] : List Nat), T.1 q) (hta : ∀ a ∈ ([230] : List Nat), ∀ j, j < (bA a).2.2 → T.2 a j) (htn : OKN T s) : CD l s0 D A dT 227 (rmN 227) [] [161] T (TU T 161 7) [.ref (A 179)] s (fun o t => Bd t ∧ Fm [] [161] s t ∧ NW t ∧ o = .inl none ∧ (True)) := by
  refine cd_of G (by decide) (Nat.le_of_ble_eq_true rfl) (fun Q hQ => ?_)
  have I0 := I
  show DS l s0 D A dT 227 (rmN 227) [] [161] (TU T 161 7) Q (T) 0 [(0, .ref (A 179))] [] s
  have F : Fm [] [161] s s := fm_rf _ _ s
  have L2 : ∀ (n : Nat) (t : PS) (ka : Int), Bd t → Fm [] [161] s t → NW t → (0 ≤ ka ∧ ka ≤ 7) → (7 - ka : Int).toNat < n → (∀ (t' : PS) (ka' : Int), Bd t' → Fm [] [161] s t' → NW t' → (7 ≤ ka') → DS l s0 D A dT 227 (rmN 227) [] [161] (TU T 161 7) Q (TU T 161 ka') 21 [(0, .ref (A 179)), (1, .int (Int32.ofInt ka'))] [] t') → DS l s0 D A dT 227 (rmN 227) [] [161] (TU T 161 7) Q (TU T 161 ka) 2 [(0, .ref (A 179)), (1, .int (Int32.ofInt ka))] [] t := by
    intro n
    induction n with
    | zero =>
      intro t ka I F jjNW hi hm kx
      exact absurd hm (Nat.not_lt_zero _)
    | succ n ih =>
      intro t ka I F jjNW hi hm kx
      refine d_lift (fun k ws X h => z_load_n X (x := ka) (show cdA 227 2 = some (.iload_n 1, 1, 0, 0, 0) from rfl) (List.Mem.tail _ (List.Mem.head _)) h) ?_
      refine d_lift (fun k ws X h => z_bipush X (show cdA 227 3 = some (.bipush 7, 2, 0, 0, 7) from rfl) h) ?_
      refine d_br (bo_ge _ _) bx_ge (fun k ws X h1 h2 => z_icmp_ge X (t := 21) (show cdA 227 5 = some (.if_icmp .ge 16, 3, 3, 0, 0) from rfl) (by decide) ⟨by first | exact oq_fa4e5087 hi.1 | omega, by first | exact oq_0e78ca7d hi.2 | omega⟩ (by decide) h1 h2) (fun g1001 => ?_) (fun g1001 => ?_)
      ·
        refine d_lvs (lv := [(0, .ref (A 179)), (1, .int (Int32.ofInt ka))]) (List.forall_mem_cons.mpr ⟨(List.Mem.head _), (List.forall_mem_cons.mpr ⟨(List.Mem.tail _ (List.Mem.head _)), (fun q h => absurd h List.not_mem_nil)⟩)⟩) ?_
        exact kx _ ka I F jjNW (by first | exact g1001 | omega)
      ·
        refine d_lift (fun k ws X h => z_aload_n X (x := A 179) (show cdA 227 8 = some (.aload_n 0, 1, 0, 0, 0) from rfl) (List.Mem.head _) h) ?_
        refine d_liftS (fun k s X h => s_getR X 179 (show cdA 227 9 = some (.getfield 32, 3, 12, 21, 0) from rfl) (by decide) rfl rfl h) ?_
        refine d_lift (fun k ws X h => z_load_n X (x := ka) (show cdA 227 12 = some (.iload_n 1, 1, 0, 0, 0) from rfl) (List.Mem.tail _ (List.Mem.head _)) h) ?_
        refine d_lift (fun k ws X h => z_const X (show cdA 227 13 = some (.iconst 0, 1, 0, 0, 0) from rfl) h) ?_
        refine d_ast 184 (show cdA 227 14 = some (.iastore, 1, 0, 0, 0) from rfl) (by decide) rfl (by first | exact hi.1 | omega) (show ka < 7 by first | exact g1001 | omega) (by decide) (show 161 ∈ _ by decide) (show ((-2147483648) : Int) ≤ 0 ∧ 0 ≤ 2147483647 by first | exact ⟨by decide, by decide⟩ | omega) (by decide) ?_
        obtain ⟨s1002, hs1002⟩ : ∃ x0, x0 = uC t 161 (ka).toNat (Int32.ofInt 0) := ⟨_, rfl⟩
        rw [← hs1002]
        have Is1002 : Bd s1002 := by rw [hs1002]; exact bd_C I (show ((-2147483648) : Int) ≤ 0 ∧ 0 ≤ 2147483647 by first | exact ⟨by decide, by decide⟩ | omega) (by decide)
        have Fs1002 := fm_C (i := (ka).toNat) (x := Int32.ofInt 0) F (show 161 ∈ _ by decide)
        rw [← hs1002] at Fs1002
        have fs1002 : Fm [] [161] t s1002 := by rw [hs1002]; exact fm_C (fm_rf _ _ _) (show 161 ∈ _ by decide)
        have JNW_s1002 : NW s1002 := NW_fm fs1002 (by decide) jjNW
        refine d_lift (fun k ws X h => z_inc X (x := ka) (lv' := [(1, .int (Int32.ofInt (ka + 1))), (0, .ref (A 179))]) (show cdA 227 15 = some (.iinc 1 1, 3, 0, 0, 0) from rfl) (by decide) (List.Mem.tail _ (List.Mem.head _)) (fun _ h => h) h) ?_
        refine d_lift (fun k ws X h => z_goto X (t := 2) (show cdA 227 18 = some (.goto (-16), 3, 0, 0, 0) from rfl) (by decide) h) ?_
        refine d_lvs (lv := [(0, .ref (A 179)), (1, .int (Int32.ofInt (ka + 1)))]) (List.forall_mem_cons.mpr ⟨(List.Mem.tail _ (List.Mem.head _)), (List.forall_mem_cons.mpr ⟨(List.Mem.head _), (fun q h => absurd h List.not_mem_nil)⟩)⟩) ?_
        refine d_mono (T' := TU T 161 (ka + 1)) (fun _ h => h) (TU_s (by omega)) ?_
        exact ih _ (ka + 1) Is1002 Fs1002 JNW_s1002 (by first | exact ⟨oq_54f49eb5 hi.1, oq_c22ff062 g1001⟩ | omega) (by first | exact qk_me hm (by decide) (oq_4b3bf825 g1001) | omega) kx
  have L177 : ∀ (n : Nat) (t : PS) (a iz ka c b : Int), Bd t → Fm [] [161] s t → NW t → (0 ≤ a ∧ a < iI s 90 ∧ a ≤ 11 ∧ (iz = 0 ∨ iz = 1) ∧ 0 ≤ ka ∧ ka < iC s 202 (a : Int).toNat ∧ ka ≤ 23 ∧ 0 ≤ c ∧ c ≤ 127 ∧ 1 ≤ b ∧ b ≤ 12) → (12 - b : Int).toNat < n → (∀ (t' : PS) (b' : Int), Bd t' → Fm [] [161] s t' → NW t' → (0 ≤ a ∧ a < iI s 90 ∧ a ≤ 11 ∧ (iz = 0 ∨ iz = 1) ∧ 0 ≤ ka ∧ ka < iC s 202 (a : Int).toNat ∧ ka ≤ 23 ∧ 0 ≤ c ∧ c ≤ 127 ∧ 1 ≤ b' ∧ b' ≤ 12) → DS l s0 D A dT 227 (rmN 227) [] [161] (TU T 161 7) Q (TU T 161 7) 278 [(0, .ref (A 179)), (1, .int (Int32.ofInt a)), (2, .int (Int32.ofInt iz)), (3, .int (Int32.ofInt ka)), (4, .int (Int32.ofInt c)), (5, .int (Int32.ofInt b'))] [] t') → DS l s0 D A dT 227 (rmN 227) [] [161] (TU T 161 7) Q (TU T 161 7) 177 [(0, .ref (A 179)), (1, .int (Int32.ofInt a)), (2, .int (Int32.ofInt iz)), (3, .int (Int32.ofInt ka)), (4, .int (Int32.ofInt c)), (5, .int (Int32.ofInt b))] [] t := by
    intro n
    induction n with
    | zero =>
      intro t a iz ka c b I F jjNW hi hm kx
      exact absurd hm (Nat.not_lt_zero _)
    | succ n ih =>
      intro t a iz ka c b I F jjNW hi hm kx
      have hta2001 : ∀ a ∈ ([161, 230] : List Nat), ∀ j, j < (bA a).2.2 → (TU T 161 7).2 a j := hta_g hta (by decide)
      refine d_lift (fun k ws X h => z_load X (x := b) (show cdA 227 177 = some (.iload 5, 2, 0, 0, 0) from rfl) (List.Mem.tail _ (List.Mem.tail _ (List.Mem.tail _ (List.Mem.tail _ (List.Mem.tail _ (List.Mem.head _)))))) h) ?_
      refine d_lift (fun k ws X h => z_aload_n X (x := A 179) (show cdA 227 179 = some (.aload_n 0, 1, 0, 0, 0) from rfl) (List.Mem.head _) h) ?_
      refine d_getI 179 (show cdA 227 180 = some (.getfield 233, 3, 12, 22, 0) from rfl) (by decide) rfl rfl (hti 90 (by decide)) ?_
      have b2002 : (0 : Int) ≤ iI t 90 ∧ iI t 90 ≤ 12 := I.1 90
      have q2003 : iI t 90 = iI s 90 := fm_i F (by decide)
      refine d_br (bo_ge _ _) bx_ge (fun k ws X h1 h2 => z_icmp_ge X (t := 278) (show cdA 227 183 = some (.if_icmp .ge 95, 3, 3, 0, 0) from rfl) (by decide) ⟨by first | exact oq_9462313e hi.2.2.2.2.2.2.2.2.2.1 | omega, by first | exact oq_78843a64 hi.2.2.2.2.2.2.2.2.2.2 | omega⟩ (rng_to _) h1 h2) (fun g2004 => ?_) (fun g2004 => ?_)
      ·
        refine d_lvs (lv := [(0, .ref (A 179)), (1, .int (Int32.ofInt a)), (2, .int (Int32.ofInt iz)), (3, .int (Int32.ofInt ka)), (4, .int (Int32.ofInt c)), (5, .int (Int32.ofInt b))]) (List.forall_mem_cons.mpr ⟨(List.Mem.head _), (List.forall_mem_cons.mpr ⟨(List.Mem.tail _ (List.Mem.head _)), (List.forall_mem_cons.mpr ⟨(List.Mem.tail _ (List.Mem.tail _ (List.Mem.head _))), (List.forall_mem_cons.mpr ⟨(List.Mem.tail _ (List.Mem.tail _ (List.Mem.tail _ (List.Mem.head _)))), (List.forall_mem_cons.mpr ⟨(List.Mem.tail _ (List.Mem.tail _ (List.Mem.tail _ (List.Mem.tail _ (List.Mem.head _))))), (List.forall_mem_cons.mpr ⟨(List.Mem.tail _ (List.Mem.tail _ (List.Mem.tail _ (List.Mem.tail _ (List.Mem.tail _ (List.Mem.head _)))))), (fun q h => absurd h List.not_mem_nil)⟩)⟩)⟩)⟩)⟩)⟩) ?_
        exact kx _ b I F jjNW (by first | exact ⟨hi.1, hi.2.1, hi.2.2.1, hi.2.2.2.1, hi.2.2.2.2.1, hi.2.2.2.2.2.1, hi.2.2.2.2.2.2.1, hi.2.2.2.2.2.2.2.1, hi.2.2.2.2.2.2.2.2.1, hi.2.2.2.2.2.2.2.2.2.1, hi.2.2.2.2.2.2.2.2.2.2⟩ | omega)
      ·
        refine d_lift (fun k ws X h => z_aload_n X (x := A 179) (show cdA 227 186 = some (.aload_n 0, 1, 0, 0, 0) from rfl) (List.Mem.head _) h) ?_
        refine d_liftS (fun k s X h => s_getR X 179 (show cdA 227 187 = some (.getfield 76, 3, 12, 37, 0) from rfl) (by decide) rfl rfl h) ?_
        refine d_lift (fun k ws X h => z_load X (x := c) (show cdA 227 190 = some (.iload 4, 2, 0, 0, 0) from rfl) (List.Mem.tail _ (List.Mem.tail _ (List.Mem.tail _ (List.Mem.tail _ (List.Mem.head _))))) h) ?_
        refine d_zald 258 (show cdA 227 192 = some (.baload, 1, 0, 0, 0) from rfl) (by decide) rfl (by first | exact hi.2.2.2.2.2.2.2.1 | omega) (show c < 128 by first | exact oq_31b2bf10 hi.2.2.2.2.2.2.2.2.1 | omega) (by decide) (hta2001 230 (by decide) _ (show (c).toNat < 128 by first | exact oq_c7f4e9c1 hi.2.2.2.2.2.2.2.2.1 | omega)) ?_
        have b2005 : (0 : Int) ≤ iC t 230 (c).toNat ∧ iC t 230 (c).toNat ≤ 1 := I.2 230 _ (show (c).toNat < 128 by first | exact oq_c7f4e9c1 hi.2.2.2.2.2.2.2.2.1 | omega)
        have q2006 : iC t 230 (c).toNat = iC s 230 (c).toNat := fm_c F (by decide)
        refine d_br (bo_eq _ _) bx_eq (fun k ws X h1 h2 => z_if_eq X (t := 278) (show cdA 227 193 = some (.ifCond .eq 85, 3, 0, 0, 0) from rfl) (by decide) (rng_to _) h1 h2) (fun g2007 => ?_) (fun g2007 => ?_)
        ·
          refine d_lvs (lv := [(0, .ref (A 179)), (1, .int (Int32.ofInt a)), (2, .int (Int32.ofInt iz)), (3, .int (Int32.ofInt ka)), (4, .int (Int32.ofInt c)), (5, .int (Int32.ofInt b))]) (List.forall_mem_cons.mpr ⟨(List.Mem.head _), (List.forall_mem_cons.mpr ⟨(List.Mem.tail _ (List.Mem.head _)), (List.forall_mem_cons.mpr ⟨(List.Mem.tail _ (List.Mem.tail _ (List.Mem.head _))), (List.forall_mem_cons.mpr ⟨(List.Mem.tail _ (List.Mem.tail _ (List.Mem.tail _ (List.Mem.head _)))), (List.forall_mem_cons.mpr ⟨(List.Mem.tail _ (List.Mem.tail _ (List.Mem.tail _ (List.Mem.tail _ (List.Mem.head _))))), (List.forall_mem_cons.mpr ⟨(List.Mem.tail _ (List.Mem.tail _ (List.Mem.tail _ (List.Mem.tail _ (List.Mem.tail _ (List.Mem.head _)))))), (fun q h => absurd h List.not_mem_nil)⟩)⟩)⟩)⟩)⟩)⟩) ?_
          exact kx _ b I F jjNW (by first | exact ⟨hi.1, hi.2.1, hi.2.2.1, hi.2.2.2.1, hi.2.2.2.2.1, hi.2.2.2.2.2.1, hi.2.2.2.2.2.2.1, hi.2.2.2.2.2.2.2.1, hi.2.2.2.2.2.2.2.2.1, hi.2.2.2.2.2.2.2.2.2.1, hi.2.2.2.2.2.2.2.2.2.2⟩ | omega)
        ·
          refine d_lift (fun k ws X h => z_aload_n X (x := A 179) (show cdA 227 196 = some (.aload_n 0, 1, 0, 0, 0) from rfl) (List.Mem.head _) h) ?_
          refine d_liftS (fun k s X h => s_getR X 179 (show cdA 227 197 = some (.getfield 67, 3, 12, 34, 0) from rfl) (by decide) rfl rfl h) ?_
          refine d_lift (fun k ws X h => z_load X (x := b) (show cdA 227 200 = some (.iload 5, 2, 0, 0, 0) from rfl) (List.Mem.tail _ (List.Mem.tail _ (List.Mem.tail _ (List.Mem.tail _ (List.Mem.tail _ (List.Mem.head _)))))) h) ?_
          refine d_liftS (fun k s X h => z_aald X rw_243 (show cdA 227 202 = some (.aaload, 1, 0, 0, 0) from rfl) (by first | exact oq_2a6e3b50 hi.2.2.2.2.2.2.2.2.2.1 | omega) (show b < 12 by first | exact oq_f36e82a8 g2004 b2002.2 | omega) (by decide) h) ?_
          refine d_lift (fun k ws X h => z_load X (x := c) (show cdA 227 203 = some (.iload 4, 2, 0, 0, 0) from rfl) (List.Mem.tail _ (List.Mem.tail _ (List.Mem.tail _ (List.Mem.tail _ (List.Mem.head _))))) h) ?_
          refine d_ald2 rw_243 (show cdA 227 205 = some (.iaload, 1, 0, 0, 0) from rfl) (show (b : Int).toNat < 12 by first | exact oq_2dac6850 g2004 b2002.2 | omega) (by first | exact hi.2.2.2.2.2.2.2.1 | omega) (show c < 128 by first | exact oq_31b2bf10 hi.2.2.2.2.2.2.2.2.1 | omega) (by decide) (Or.inr ((htn _ (show (b : Int).toNat < 12 by omega) (show (((b : Int).toNat : Nat) : Int) < iI s 90 by omega)).2.2.1 _ (show (c : Int).toNat < 128 by omega))) ?_
          have b2008 : ((-1) : Int) ≤ (iC t (216 + (b : Int).toNat) (c : Int).toNat) ∧ (iC t (216 + (b : Int).toNat) (c : Int).toNat) ≤ 23 := rw_bd rw_243 I (show (b : Int).toNat < 12 by first | exact oq_2dac6850 g2004 b2002.2 | omega) (show (c : Int).toNat < 128 by first | exact oq_c7f4e9c1 hi.2.2.2.2.2.2.2.2.1 | omega)
          refine d_lift (fun k ws X h => z_store X (lv' := [(6, .int (Int32.ofInt (iC t (216 + (b : Int).toNat) (c : Int).toNat))), (0, .ref (A 179)), (1, .int (Int32.ofInt a)), (2, .int (Int32.ofInt iz)), (3, .int (Int32.ofInt ka)), (4, .int (Int32.ofInt c)), (5, .int (Int32.ofInt b))]) (show cdA 227 206 = some (.istore 6, 2, 0, 0, 0) from rfl) (by decide) (fun _ h => h) h) ?_
          have q2009 : iC t 202 (b : Int).toNat = iC s 202 (b : Int).toNat := fm_c F (by decide)
          have hw2010 := (jjNW (b : Int).toNat (by omega) (by omega)).2 (c : Int).toNat (by omega)
          have q2011 : iI t 90 = iI s 90 := fm_i F (by decide)
          refine d_lift (fun k ws X h => z_load X (x := (iC t (216 + (b : Int).toNat) (c : Int).toNat)) (show cdA 227 208 = some (.iload 6, 2, 0, 0, 0) from rfl) (List.Mem.head _) h) ?_
          refine d_lift (fun k ws X h => z_const X (show cdA 227 210 = some (.iconst (-1), 1, 0, 0, 0) from rfl) h) ?_
          refine d_br (bo_eq _ _) bx_eq (fun k ws X h1 h2 => z_icmp_eq X (t := 272) (show cdA 227 211 = some (.if_icmp .eq 61, 3, 0, 0, 0) from rfl) (by decide) (rng_to _) (by decide) h1 h2) (fun g2012 => ?_) (fun g2012 => ?_)
          ·
            refine d_lift (fun k ws X h => z_inc X (x := b) (lv' := [(5, .int (Int32.ofInt (b + 1))), (6, .int (Int32.ofInt (iC t (216 + (b : Int).toNat) (c : Int).toNat))), (0, .ref (A 179)), (1, .int (Int32.ofInt a)), (2, .int (Int32.ofInt iz)), (3, .int (Int32.ofInt ka)), (4, .int (Int32.ofInt c))]) (show cdA 227 272 = some (.iinc 5 1, 3, 0, 0, 0) from rfl) (by decide) (List.Mem.tail _ (List.Mem.tail _ (List.Mem.tail _ (List.Mem.tail _ (List.Mem.tail _ (List.Mem.tail _ (List.Mem.head _))))))) (fun _ h => h) h) ?_
            refine d_lift (fun k ws X h => z_goto X (t := 177) (show cdA 227 275 = some (.goto (-98), 3, 0, 0, 0) from rfl) (by decide) h) ?_
            refine d_lvs (lv := [(0, .ref (A 179)), (1, .int (Int32.ofInt a)), (2, .int (Int32.ofInt iz)), (3, .int (Int32.ofInt ka)), (4, .int (Int32.ofInt c)), (5, .int (Int32.ofInt (b + 1)))]) (List.forall_mem_cons.mpr ⟨(List.Mem.tail _ (List.Mem.tail _ (List.Mem.head _))), (List.forall_mem_cons.mpr ⟨(List.Mem.tail _ (List.Mem.tail _ (List.Mem.tail _ (List.Mem.head _)))), (List.forall_mem_cons.mpr ⟨(List.Mem.tail _ (List.Mem.tail _ (List.Mem.tail _ (List.Mem.tail _ (List.Mem.head _))))), (List.forall_mem_cons.mpr ⟨(List.Mem.tail _ (List.Mem.tail _ (List.Mem.tail _ (List.Mem.tail _ (List.Mem.tail _ (List.Mem.head _)))))), (List.forall_mem_cons.mpr ⟨(List.Mem.tail _ (List.Mem.tail _ (List.Mem.tail _ (List.Mem.tail _ (List.Mem.tail _ (List.Mem.tail _ (List.Mem.head _))))))), (List.forall_mem_cons.mpr ⟨(List.Mem.head _), (fun q h => absurd h List.not_mem_nil)⟩)⟩)⟩)⟩)⟩)⟩) ?_
            exact ih _ a iz ka c (b + 1) I F jjNW (by first | exact ⟨hi.1, hi.2.1, hi.2.2.1, hi.2.2.2.1, hi.2.2.2.2.1, hi.2.2.2.2.2.1, hi.2.2.2.2.2.2.1, hi.2.2.2.2.2.2.2.1, hi.2.2.2.2.2.2.2.2.1, oq_1e1a2df6 hi.2.2.2.2.2.2.2.2.2.1, oq_4dae995e g2004 b2002.2⟩ | omega) (by first | exact qk_me hm (by decide) (oq_b575e8c1 g2004 b2002.2) | omega) kx
          ·
            refine d_lift (fun k ws X h => z_aload_n X (x := A 179) (show cdA 227 214 = some (.aload_n 0, 1, 0, 0, 0) from rfl) (List.Mem.tail _ (List.Mem.head _)) h) ?_
            refine d_lift (fun k ws X h => z_load_n X (x := a) (show cdA 227 215 = some (.iload_n 1, 1, 0, 0, 0) from rfl) (List.Mem.tail _ (List.Mem.tail _ (List.Mem.head _))) h) ?_
            refine d_lift (fun k ws X h => z_load_n X (x := ka) (show cdA 227 216 = some (.iload_n 3, 1, 0, 0, 0) from rfl) (List.Mem.tail _ (List.Mem.tail _ (List.Mem.tail _ (List.Mem.tail _ (List.Mem.head _))))) h) ?_
            have q2013 : iC t 202 (a : Int).toNat = iC s 202 (a : Int).toNat := fm_c F (by decide)
            have q2014 : iI t 90 = iI s 90 := fm_i F (by decide)
            refine d_callV 179 (As := [.int (Int32.ofInt a), .int (Int32.ofInt ka)]) (st := []) (show cdA 227 217 = some (.invokevirtual 315, 3, 226, 0, 0) from rfl) rfl (by decide) rfl (d_goes (T := TU T 161 7) G I (by first | exact ⟨hi.1, hi.2.2.1⟩ | omega) (by first | exact ⟨hi.2.2.2.2.1, oq_71f4b7b9 q2013 hi.2.2.2.2.2.1⟩ | omega) (by first | exact oq_8c139b48 hi.2.1 q2014 | omega) (fun q h => hti q ((by decide : ∀ q ∈ ([] : List Nat), q ∈ ([90, 89] : List Nat)) q h)) (fun a h => hta2001 a ((by decide : ∀ q ∈ ([] : List Nat), q ∈ ([161, 230] : List Nat)) a h)) (OKN_fm F (by decide) (OKN_mono htn (fun _ _ h => (Or.inr (h)))))) ⟨rfl, rfl⟩ ⟨(show 7 + 1 ≤ 8 from oq_519c1fd2), (show 8 + (mNL (miB 226) + 11) + 121 ≤ 143 from oq_f7679ab2)⟩ (Nat.le_of_ble_eq_true rfl) (by decide) (by decide) (fun ee s2015 hq => ?_) (fun vv s2015 hq => ?_)
            · obtain ⟨Is2015, Fs2015, e2016, hv, hrs2015, hps2015⟩ := hq; cases hv
            obtain ⟨Is2015, Fs2015, e2016, hv, hrs2015, hps2015⟩ := hq
            cases hv
            have Gs2015 := fm_ts F Fs2015 (by decide) (by decide)
            have JNW_s2015 : NW s2015 := NW_fm Fs2015 (by decide) jjNW
            show DS l s0 D A dT 227 (rmN 227) [] [161] (TU T 161 7) Q (TU T 161 7) 220 [(6, .int (Int32.ofInt (iC t (216 + (b : Int).toNat) (c : Int).toNat))), (0, .ref (A 179)), (1, .int (Int32.ofInt a)), (2, .int (Int32.ofInt iz)), (3, .int (Int32.ofInt ka)), (4, .int (Int32.ofInt c)), (5, .int (Int32.ofInt b))] [.int (Int32.ofInt e2016)] s2015
            refine d_lift (fun k ws X h => z_aload_n X (x := A 179) (show cdA 227 220 = some (.aload_n 0, 1, 0, 0, 0) from rfl) (List.Mem.tail _ (List.Mem.head _)) h) ?_
            refine d_lift (fun k ws X h => z_load X (x := b) (show cdA 227 221 = some (.iload 5, 2, 0, 0, 0) from rfl) (List.Mem.tail _ (List.Mem.tail _ (List.Mem.tail _ (List.Mem.tail _ (List.Mem.tail _ (List.Mem.tail _ (List.Mem.head _))))))) h) ?_
            refine d_lift (fun k ws X h => z_load X (x := (iC t (216 + (b : Int).toNat) (c : Int).toNat)) (show cdA 227 223 = some (.iload 6, 2, 0, 0, 0) from rfl) (List.Mem.head _) h) ?_
            have q2017 : iC s2015 202 (b : Int).toNat = iC s 202 (b : Int).toNat := fm_c Gs2015 (by decide)
            have q2018 : iI s2015 90 = iI s 90 := fm_i Gs2015 (by decide)
            refine d_callV 179 (As := [.int (Int32.ofInt b), .int (Int32.ofInt (iC t (216 + (b : Int).toNat) (c : Int).toNat))]) (st := [.int (Int32.ofInt e2016)]) (show cdA 227 225 = some (.invokevirtual 315, 3, 226, 0, 0) from rfl) rfl (by decide) rfl (d_goes (T := TU T 161 7) G Is2015 (by first | exact ⟨oq_2a6e3b50 hi.2.2.2.2.2.2.2.2.2.1, oq_e4d7f3c5 g2004 b2002.2⟩ | omega) (by first | exact ⟨oq_7a1025bf g2012 b2008.1, by omega⟩ | omega) (by first | exact oq_443c7530 q2018 g2004 q2014 | omega) (fun q h => hti q ((by decide : ∀ q ∈ ([] : List Nat), q ∈ ([90, 89] : List Nat)) q h)) (fun a h => hta2001 a ((by decide : ∀ q ∈ ([] : List Nat), q ∈ ([161, 230] : List Nat)) a h)) (OKN_fm Gs2015 (by decide) (OKN_mono htn (fun _ _ h => (Or.inr (h)))))) ⟨rfl, rfl⟩ ⟨(show 7 + 1 ≤ 8 from oq_519c1fd2), (show 8 + (mNL (miB 226) + 11) + 121 ≤ 143 from oq_f7679ab2)⟩ (Nat.le_of_ble_eq_true rfl) (by decide) (by decide) (fun ee s2019 hq => ?_) (fun vv s2019 hq => ?_)
            · obtain ⟨Is2019, Fs2019, e2020, hv, hrs2019, hps2019⟩ := hq; cases hv
            obtain ⟨Is2019, Fs2019, e2020, hv, hrs2019, hps2019⟩ := hq
            cases hv
            have Gs2019 := fm_ts Gs2015 Fs2019 (by decide) (by decide)
            have JNW_s2019 : NW s2019 := NW_fm Fs2019 (by decide) JNW_s2015
            show DS l s0 D A dT 227 (rmN 227) [] [161] (TU T 161 7) Q (TU T 161 7) 228 [(6, .int (Int32.ofInt (iC t (216 + (b : Int).toNat) (c : Int).toNat))), (0, .ref (A 179)), (1, .int (Int32.ofInt a)), (2, .int (Int32.ofInt iz)), (3, .int (Int32.ofInt ka)), (4, .int (Int32.ofInt c)), (5, .int (Int32.ofInt b))] [.int (Int32.ofInt e2020), .int (Int32.ofInt e2016)] s2019
            refine d_br (bo_eq _ _) bx_eq (fun k ws X h1 h2 => z_icmp_eq X (t := 272) (show cdA 227 228 = some (.if_icmp .eq 44, 3, 0, 0, 0) from rfl) (by decide) hrs2015 hrs2019 h1 h2) (fun g2021 => ?_) (fun g2021 => ?_)
            ·
              refine d_lift (fun k ws X h => z_inc X (x := b) (lv' := [(5, .int (Int32.ofInt (b + 1))), (6, .int (Int32.ofInt (iC t (216 + (b : Int).toNat) (c : Int).toNat))), (0, .ref (A 179)), (1, .int (Int32.ofInt a)), (2, .int (Int32.ofInt iz)), (3, .int (Int32.ofInt ka)), (4, .int (Int32.ofInt c))]) (show cdA 227 272 = some (.iinc 5 1, 3, 0, 0, 0) from rfl) (by decide) (List.Mem.tail _ (List.Mem.tail _ (List.Mem.tail _ (List.Mem.tail _ (List.Mem.tail _ (List.Mem.tail _ (List.Mem.head _))))))) (fun _ h => h) h) ?_
              refine d_lift (fun k ws X h => z_goto X (t := 177) (show cdA 227 275 = some (.goto (-98), 3, 0, 0, 0) from rfl) (by decide) h) ?_
              refine d_lvs (lv := [(0, .ref (A 179)), (1, .int (Int32.ofInt a)), (2, .int (Int32.ofInt iz)), (3, .int (Int32.ofInt ka)), (4, .int (Int32.ofInt c)), (5, .int (Int32.ofInt (b + 1)))]) (List.forall_mem_cons.mpr ⟨(List.Mem.tail _ (List.Mem.tail _ (List.Mem.head _))), (List.forall_mem_cons.mpr ⟨(List.Mem.tail _ (List.Mem.tail _ (List.Mem.tail _ (List.Mem.head _)))), (List.forall_mem_cons.mpr ⟨(List.Mem.tail _ (List.Mem.tail _ (List.Mem.tail _ (List.Mem.tail _ (List.Mem.head _))))), (List.forall_mem_cons.mpr ⟨(List.Mem.tail _ (List.Mem.tail _ (List.Mem.tail _ (List.Mem.tail _ (List.Mem.tail _ (List.Mem.head _)))))), (List.forall_mem_cons.mpr ⟨(List.Mem.tail _ (List.Mem.tail _ (List.Mem.tail _ (List.Mem.tail _ (List.Mem.tail _ (List.Mem.tail _ (List.Mem.head _))))))), (List.forall_mem_cons.mpr ⟨(List.Mem.head _), (fun q h => absurd h List.not_mem_nil)⟩)⟩)⟩)⟩)⟩)⟩) ?_
              exact ih _ a iz ka c (b + 1) Is2019 Gs2019 JNW_s2019 (by first | exact ⟨hi.1, hi.2.1, hi.2.2.1, hi.2.2.2.1, hi.2.2.2.2.1, hi.2.2.2.2.2.1, hi.2.2.2.2.2.2.1, hi.2.2.2.2.2.2.2.1, hi.2.2.2.2.2.2.2.2.1, oq_1e1a2df6 hi.2.2.2.2.2.2.2.2.2.1, oq_4dae995e g2004 b2002.2⟩ | omega) (by first | exact qk_me hm (by decide) (oq_b575e8c1 g2004 b2002.2) | omega) kx
            ·
              refine d_lift (fun k ws X h => z_aload_n X (x := A 179) (show cdA 227 231 = some (.aload_n 0, 1, 0, 0, 0) from rfl) (List.Mem.tail _ (List.Mem.head _)) h) ?_
              refine d_liftS (fun k s X h => s_getR X 179 (show cdA 227 232 = some (.getfield 32, 3, 12, 21, 0) from rfl) (by decide) rfl rfl h) ?_
              refine d_lift (fun k ws X h => z_const X (show cdA 227 235 = some (.iconst 1, 1, 0, 0, 0) from rfl) h) ?_
              refine d_lift (fun k ws X h => w_dup2_11 X.1 (ax_d X (show cdA 227 236 = some (.dup2, 1, 0, 0, 0) from rfl)) rfl rfl h) ?_
              refine d_ald 184 (show cdA 227 237 = some (.iaload, 1, 0, 0, 0) from rfl) (by decide) rfl (by decide) (show 1 < 7 by decide) (by decide) (hta2001 161 (by decide) _ (show (1 : Int).toNat < 7 by first | exact oq_a32b659c | omega)) ?_
              have b2022 : ((-2147483648) : Int) ≤ iC s2019 161 (1 : Int).toNat ∧ iC s2019 161 (1 : Int).toNat ≤ 2147483647 := Is2019.2 161 _ (show (1 : Int).toNat < 7 by first | exact oq_a32b659c | omega)
              refine d_lift (fun k ws X h => z_aload_n X (x := A 179) (show cdA 227 238 = some (.aload_n 0, 1, 0, 0, 0) from rfl) (List.Mem.tail _ (List.Mem.head _)) h) ?_
              refine d_liftS (fun k s X h => s_getR X 179 (show cdA 227 239 = some (.getfield 61, 3, 12, 32, 0) from rfl) (by decide) rfl rfl h) ?_
              refine d_lift (fun k ws X h => z_load_n X (x := a) (show cdA 227 242 = some (.iload_n 1, 1, 0, 0, 0) from rfl) (List.Mem.tail _ (List.Mem.tail _ (List.Mem.head _))) h) ?_
              refine d_ald 229 (show cdA 227 243 = some (.iaload, 1, 0, 0, 0) from rfl) (by decide) rfl (by first | exact hi.1 | omega) (show a < 12 by first | exact oq_0ddfcfee hi.2.2.1 | omega) (by decide) (Or.inr ((htn _ (show (a : Int).toNat < 12 by omega) (show (((a : Int).toNat : Nat) : Int) < iI s 90 by omega)).2.1)) ?_
              have b2023 : (0 : Int) ≤ iC s2019 203 (a).toNat ∧ iC s2019 203 (a).toNat ≤ 50 := Is2019.2 203 _ (show (a).toNat < 12 by first | exact oq_9c5fa447 hi.2.2.1 | omega)
              have q2024 : iC s2019 203 (a).toNat = iC s 203 (a).toNat := fm_c Gs2019 (by decide)
              refine d_lift (fun k ws X h => z_aload_n X (x := A 179) (show cdA 227 244 = some (.aload_n 0, 1, 0, 0, 0) from rfl) (List.Mem.tail _ (List.Mem.head _)) h) ?_
              refine d_liftS (fun k s X h => s_getR X 179 (show cdA 227 245 = some (.getfield 61, 3, 12, 32, 0) from rfl) (by decide) rfl rfl h) ?_
              refine d_lift (fun k ws X h => z_load X (x := b) (show cdA 227 248 = some (.iload 5, 2, 0, 0, 0) from rfl) (List.Mem.tail _ (List.Mem.tail _ (List.Mem.tail _ (List.Mem.tail _ (List.Mem.tail _ (List.Mem.tail _ (List.Mem.head _))))))) h) ?_
              refine d_ald 229 (show cdA 227 250 = some (.iaload, 1, 0, 0, 0) from rfl) (by decide) rfl (by first | exact oq_2a6e3b50 hi.2.2.2.2.2.2.2.2.2.1 | omega) (show b < 12 by first | exact oq_f36e82a8 g2004 b2002.2 | omega) (by decide) (Or.inr ((htn _ (show (b : Int).toNat < 12 by omega) (show (((b : Int).toNat : Nat) : Int) < iI s 90 by omega)).2.1)) ?_
              have b2025 : (0 : Int) ≤ iC s2019 203 (b).toNat ∧ iC s2019 203 (b).toNat ≤ 50 := Is2019.2 203 _ (show (b).toNat < 12 by first | exact oq_2dac6850 g2004 b2002.2 | omega)
              have q2026 : iC s2019 203 (b).toNat = iC s 203 (b).toNat := fm_c Gs2019 (by decide)
              have N2027 : ∀ e2028 : Int, ((((iC s2019 203 (b).toNat) ≤ (iC s2019 203 (a).toNat)) ∧ ((0 : Int) ≤ iC s2019 203 (b).toNat ∧ iC s2019 203 (b).toNat ≤ 50) ∧ (iC s2019 203 (b).toNat = iC s 203 (b).toNat) ∧ e2028 = (iC s2019 203 (b).toNat)) ∨ (((iC s2019 203 (a).toNat) < (iC s2019 203 (b).toNat)) ∧ ((0 : Int) ≤ iC s2019 203 (a).toNat ∧ iC s2019 203 (a).toNat ≤ 50) ∧ (iC s2019 203 (a).toNat = iC s 203 (a).toNat) ∧ e2028 = (iC s2019 203 (a).toNat))) → DS l s0 D A dT 227 (rmN 227) [] [161] (TU T 161 7) Q (TU T 161 7) 270 [(6, .int (Int32.ofInt (iC t (216 + (b : Int).toNat) (c : Int).toNat))), (0, .ref (A 179)), (1, .int (Int32.ofInt a)), (2, .int (Int32.ofInt iz)), (3, .int (Int32.ofInt ka)), (4, .int (Int32.ofInt c)), (5, .int (Int32.ofInt b))] [.int (Int32.ofInt e2028), .int (Int32.ofInt (iC s2019 161 (1 : Int).toNat)), .int (Int32.ofInt 1), .ref (A 184)] s2019 := by
                intro e2028 he2028
                refine d_lift (fun k ws X h => z_add X (show cdA 227 270 = some (.iadd, 1, 0, 0, 0) from rfl) h) ?_
                refine d_any (fun y2029 hy2029 => ?_)
                refine d_ast 184 (show cdA 227 271 = some (.iastore, 1, 0, 0, 0) from rfl) (by decide) rfl (by decide) (show 1 < 7 by decide) (by decide) (show 161 ∈ _ by decide) (show ((-2147483648) : Int) ≤ y2029 ∧ y2029 ≤ 2147483647 by first | exact ⟨hy2029.1, hy2029.2⟩ | omega) hy2029 ?_
                refine d_mono (T' := TU T 161 7) (fun _ h => h) (fun _ _ h => Or.inr h) ?_
                obtain ⟨s2030, hs2030⟩ : ∃ x0, x0 = uC s2019 161 (1 : Int).toNat (Int32.ofInt y2029) := ⟨_, rfl⟩
                rw [← hs2030]
                have Is2030 : Bd s2030 := by rw [hs2030]; exact bd_C Is2019 (show ((-2147483648) : Int) ≤ y2029 ∧ y2029 ≤ 2147483647 by first | exact ⟨hy2029.1, hy2029.2⟩ | omega) hy2029
                have Fs2030 := fm_C (i := (1 : Int).toNat) (x := Int32.ofInt y2029) Gs2019 (show 161 ∈ _ by decide)
                rw [← hs2030] at Fs2030
                have fs2030 : Fm [] [161] s2019 s2030 := by rw [hs2030]; exact fm_C (fm_rf _ _ _) (show 161 ∈ _ by decide)
                have JNW_s2030 : NW s2030 := NW_fm fs2030 (by decide) JNW_s2019
                refine d_lift (fun k ws X h => z_inc X (x := b) (lv' := [(5, .int (Int32.ofInt (b + 1))), (6, .int (Int32.ofInt (iC t (216 + (b : Int).toNat) (c : Int).toNat))), (0, .ref (A 179)), (1, .int (Int32.ofInt a)), (2, .int (Int32.ofInt iz)), (3, .int (Int32.ofInt ka)), (4, .int (Int32.ofInt c))]) (show cdA 227 272 = some (.iinc 5 1, 3, 0, 0, 0) from rfl) (by decide) (List.Mem.tail _ (List.Mem.tail _ (List.Mem.tail _ (List.Mem.tail _ (List.Mem.tail _ (List.Mem.tail _ (List.Mem.head _))))))) (fun _ h => h) h) ?_
                refine d_lift (fun k ws X h => z_goto X (t := 177) (show cdA 227 275 = some (.goto (-98), 3, 0, 0, 0) from rfl) (by decide) h) ?_
                refine d_lvs (lv := [(0, .ref (A 179)), (1, .int (Int32.ofInt a)), (2, .int (Int32.ofInt iz)), (3, .int (Int32.ofInt ka)), (4, .int (Int32.ofInt c)), (5, .int (Int32.ofInt (b + 1)))]) (List.forall_mem_cons.mpr ⟨(List.Mem.tail _ (List.Mem.tail _ (List.Mem.head _))), (List.forall_mem_cons.mpr ⟨(List.Mem.tail _ (List.Mem.tail _ (List.Mem.tail _ (List.Mem.head _)))), (List.forall_mem_cons.mpr ⟨(List.Mem.tail _ (List.Mem.tail _ (List.Mem.tail _ (List.Mem.tail _ (List.Mem.head _))))), (List.forall_mem_cons.mpr ⟨(List.Mem.tail _ (List.Mem.tail _ (List.Mem.tail _ (List.Mem.tail _ (List.Mem.tail _ (List.Mem.head _)))))), (List.forall_mem_cons.mpr ⟨(List.Mem.tail _ (List.Mem.tail _ (List.Mem.tail _ (List.Mem.tail _ (List.Mem.tail _ (List.Mem.tail _ (List.Mem.head _))))))), (List.forall_mem_cons.mpr ⟨(List.Mem.head _), (fun q h => absurd h List.not_mem_nil)⟩)⟩)⟩)⟩)⟩)⟩) ?_
                exact ih _ a iz ka c (b + 1) Is2030 Fs2030 JNW_s2030 (by first | exact ⟨hi.1, hi.2.1, hi.2.2.1, hi.2.2.2.1, hi.2.2.2.2.1, hi.2.2.2.2.2.1, hi.2.2.2.2.2.2.1, hi.2.2.2.2.2.2.2.1, hi.2.2.2.2.2.2.2.2.1, oq_1e1a2df6 hi.2.2.2.2.2.2.2.2.2.1, oq_4dae995e g2004 b2002.2⟩ | omega) (by first | exact qk_me hm (by decide) (oq_b575e8c1 g2004 b2002.2) | omega) kx
              refine d_br (bo_ge _ _) bx_ge (fun k ws X h1 h2 => z_icmp_ge X (t := 263) (show cdA 227 251 = some (.if_icmp .ge 12, 3, 3, 0, 0) from rfl) (by decide) (rng_to _) (rng_to _) h1 h2) (fun g2031 => ?_) (fun g2031 => ?_)
              ·
                refine d_lift (fun k ws X h => z_aload_n X (x := A 179) (show cdA 227 263 = some (.aload_n 0, 1, 0, 0, 0) from rfl) (List.Mem.tail _ (List.Mem.head _)) h) ?_
                refine d_liftS (fun k s X h => s_getR X 179 (show cdA 227 264 = some (.getfield 61, 3, 12, 32, 0) from rfl) (by decide) rfl rfl h) ?_
                refine d_lift (fun k ws X h => z_load X (x := b) (show cdA 227 267 = some (.iload 5, 2, 0, 0, 0) from rfl) (List.Mem.tail _ (List.Mem.tail _ (List.Mem.tail _ (List.Mem.tail _ (List.Mem.tail _ (List.Mem.tail _ (List.Mem.head _))))))) h) ?_
                refine d_ald 229 (show cdA 227 269 = some (.iaload, 1, 0, 0, 0) from rfl) (by decide) rfl (by first | exact oq_2a6e3b50 hi.2.2.2.2.2.2.2.2.2.1 | omega) (show b < 12 by first | exact oq_f36e82a8 g2004 b2002.2 | omega) (by decide) (Or.inr ((htn _ (show (b : Int).toNat < 12 by omega) (show (((b : Int).toNat : Nat) : Int) < iI s 90 by omega)).2.1)) ?_
                have b2032 : (0 : Int) ≤ iC s2019 203 (b).toNat ∧ iC s2019 203 (b).toNat ≤ 50 := Is2019.2 203 _ (show (b).toNat < 12 by first | exact oq_2dac6850 g2004 b2002.2 | omega)
                have q2033 : iC s2019 203 (b).toNat = iC s 203 (b).toNat := fm_c Gs2019 (by decide)
                exact N2027 _ (Or.inl ⟨g2031, b2032, q2033, rfl⟩)
              ·
                refine d_lift (fun k ws X h => z_aload_n X (x := A 179) (show cdA 227 254 = some (.aload_n 0, 1, 0, 0, 0) from rfl) (List.Mem.tail _ (List.Mem.head _)) h) ?_
                refine d_liftS (fun k s X h => s_getR X 179 (show cdA 227 255 = some (.getfield 61, 3, 12, 32, 0) from rfl) (by decide) rfl rfl h) ?_
                refine d_lift (fun k ws X h => z_load_n X (x := a) (show cdA 227 258 = some (.iload_n 1, 1, 0, 0, 0) from rfl) (List.Mem.tail _ (List.Mem.tail _ (List.Mem.head _))) h) ?_
                refine d_ald 229 (show cdA 227 259 = some (.iaload, 1, 0, 0, 0) from rfl) (by decide) rfl (by first | exact hi.1 | omega) (show a < 12 by first | exact oq_0ddfcfee hi.2.2.1 | omega) (by decide) (Or.inr ((htn _ (show (a : Int).toNat < 12 by omega) (show (((a : Int).toNat : Nat) : Int) < iI s 90 by omega)).2.1)) ?_
                have b2034 : (0 : Int) ≤ iC s2019 203 (a).toNat ∧ iC s2019 203 (a).toNat ≤ 50 := Is2019.2 203 _ (show (a).toNat < 12 by first | exact oq_9c5fa447 hi.2.2.1 | omega)
                have q2035 : iC s2019 203 (a).toNat = iC s 203 (a).toNat := fm_c Gs2019 (by decide)
                refine d_lift (fun k ws X h => z_goto X (t := 270) (show cdA 227 260 = some (.goto 10, 3, 0, 0, 0) from rfl) (by decide) h) ?_
                exact N2027 _ (Or.inr (⟨g2031, b2034, q2035, rfl⟩))
  have L35 : ∀ (n : Nat) (t : PS) (a iz ka : Int), Bd t → Fm [] [161] s t → NW t → (0 ≤ a ∧ a < iI s 90 ∧ a ≤ 11 ∧ (iz = 0 ∨ iz = 1) ∧ 0 ≤ ka ∧ ka ≤ 24) → (24 - ka : Int).toNat < n → (∀ (t' : PS) (iz' ka' : Int), Bd t' → Fm [] [161] s t' → NW t' → (0 ≤ a ∧ a < iI s 90 ∧ a ≤ 11 ∧ (iz' = 0 ∨ iz' = 1) ∧ 0 ≤ ka' ∧ ka' ≤ 24) → DS l s0 D A dT 227 (rmN 227) [] [161] (TU T 161 7) Q (TU T 161 7) 284 [(0, .ref (A 179)), (1, .int (Int32.ofInt a)), (2, .int (Int32.ofInt iz')), (3, .int (Int32.ofInt ka'))] [] t') → DS l s0 D A dT 227 (rmN 227) [] [161] (TU T 161 7) Q (TU T 161 7) 35 [(0, .ref (A 179)), (1, .int (Int32.ofInt a)), (2, .int (Int32.ofInt iz)), (3, .int (Int32.ofInt ka))] [] t := by
    intro n
    induction n with
    | zero =>
      intro t a iz ka I F jjNW hi hm kx
      exact absurd hm (Nat.not_lt_zero _)
    | succ n ih =>
      intro t a iz ka I F jjNW hi hm kx
      have hta3001 : ∀ a ∈ ([161, 230] : List Nat), ∀ j, j < (bA a).2.2 → (TU T 161 7).2 a j := hta_g hta (by decide)
      refine d_lift (fun k ws X h => z_load_n X (x := ka) (show cdA 227 35 = some (.iload_n 3, 1, 0, 0, 0) from rfl) (List.Mem.tail _ (List.Mem.tail _ (List.Mem.tail _ (List.Mem.head _)))) h) ?_
      refine d_lift (fun k ws X h => z_aload_n X (x := A 179) (show cdA 227 36 = some (.aload_n 0, 1, 0, 0, 0) from rfl) (List.Mem.head _) h) ?_
      refine d_liftS (fun k s X h => s_getR X 179 (show cdA 227 37 = some (.getfield 58, 3, 12, 31, 0) from rfl) (by decide) rfl rfl h) ?_
      refine d_lift (fun k ws X h => z_load_n X (x := a) (show cdA 227 40 = some (.iload_n 1, 1, 0, 0, 0) from rfl) (List.Mem.tail _ (List.Mem.head _)) h) ?_
      refine d_ald 228 (show cdA 227 41 = some (.iaload, 1, 0, 0, 0) from rfl) (by decide) rfl (by first | exact hi.1 | omega) (show a < 12 by first | exact oq_0ddfcfee hi.2.2.1 | omega) (by decide) (Or.inr ((htn _ (show (a : Int).toNat < 12 by omega) (show (((a : Int).toNat : Nat) : Int) < iI s 90 by omega)).1)) ?_
      have b3002 : (0 : Int) ≤ iC t 202 (a).toNat ∧ iC t 202 (a).toNat ≤ 24 := I.2 202 _ (show (a).toNat < 12 by first | exact oq_9c5fa447 hi.2.2.1 | omega)
      have q3003 : iC t 202 (a).toNat = iC s 202 (a).toNat := fm_c F (by decide)
      have q3004 : iC t 202 (a : Int).toNat = iC s 202 (a : Int).toNat := fm_c F (by decide)
      have q3005 : iI t 90 = iI s 90 := fm_i F (by decide)
      refine d_br (bo_ge _ _) bx_ge (fun k ws X h1 h2 => z_icmp_ge X (t := 284) (show cdA 227 42 = some (.if_icmp .ge 242, 3, 3, 0, 0) from rfl) (by decide) ⟨by first | exact oq_fa4e5087 hi.2.2.2.2.1 | omega, by first | exact oq_5bcd337f hi.2.2.2.2.2 | omega⟩ (rng_to _) h1 h2) (fun g3006 => ?_) (fun g3006 => ?_)
      ·
        refine d_lvs (lv := [(0, .ref (A 179)), (1, .int (Int32.ofInt a)), (2, .int (Int32.ofInt iz)), (3, .int (Int32.ofInt ka))]) (List.forall_mem_cons.mpr ⟨(List.Mem.head _), (List.forall_mem_cons.mpr ⟨(List.Mem.tail _ (List.Mem.head _)), (List.forall_mem_cons.mpr ⟨(List.Mem.tail _ (List.Mem.tail _ (List.Mem.head _))), (List.forall_mem_cons.mpr ⟨(List.Mem.tail _ (List.Mem.tail _ (List.Mem.tail _ (List.Mem.head _)))), (fun q h => absurd h List.not_mem_nil)⟩)⟩)⟩)⟩) ?_
        exact kx _ iz ka I F jjNW (by first | exact ⟨hi.1, hi.2.1, hi.2.2.1, hi.2.2.2.1, hi.2.2.2.2.1, hi.2.2.2.2.2⟩ | omega)
      ·
        refine d_lift (fun k ws X h => z_aload_n X (x := A 179) (show cdA 227 45 = some (.aload_n 0, 1, 0, 0, 0) from rfl) (List.Mem.head _) h) ?_
        refine d_liftS (fun k s X h => s_getR X 179 (show cdA 227 46 = some (.getfield 64, 3, 12, 33, 0) from rfl) (by decide) rfl rfl h) ?_
        refine d_lift (fun k ws X h => z_load_n X (x := a) (show cdA 227 49 = some (.iload_n 1, 1, 0, 0, 0) from rfl) (List.Mem.tail _ (List.Mem.head _)) h) ?_
        refine d_liftS (fun k s X h => z_aald X rw_230 (show cdA 227 50 = some (.aaload, 1, 0, 0, 0) from rfl) (by first | exact hi.1 | omega) (show a < 12 by first | exact oq_0ddfcfee hi.2.2.1 | omega) (by decide) h) ?_
        refine d_lift (fun k ws X h => z_load_n X (x := ka) (show cdA 227 51 = some (.iload_n 3, 1, 0, 0, 0) from rfl) (List.Mem.tail _ (List.Mem.tail _ (List.Mem.tail _ (List.Mem.head _)))) h) ?_
        refine d_ald2 rw_230 (show cdA 227 52 = some (.iaload, 1, 0, 0, 0) from rfl) (show (a : Int).toNat < 12 by first | exact oq_9c5fa447 hi.2.2.1 | omega) (by first | exact hi.2.2.2.2.1 | omega) (show ka < 24 by first | exact oq_8ff7beb9 g3006 b3002.2 | omega) (by decide) (Or.inr ((htn _ (show (a : Int).toNat < 12 by omega) (show (((a : Int).toNat : Nat) : Int) < iI s 90 by omega)).2.2.2 _ (show (((ka : Int).toNat : Nat) : Int) < iC s 202 (a : Int).toNat by omega))) ?_
        have b3007 : (0 : Int) ≤ (iC t (204 + (a : Int).toNat) (ka : Int).toNat) ∧ (iC t (204 + (a : Int).toNat) (ka : Int).toNat) ≤ 127 := rw_bd rw_230 I (show (a : Int).toNat < 12 by first | exact oq_9c5fa447 hi.2.2.1 | omega) (show (ka : Int).toNat < 24 by first | exact oq_9e668fc9 g3006 b3002.2 | omega)
        refine d_lift (fun k ws X h => z_store X (lv' := [(4, .int (Int32.ofInt (iC t (204 + (a : Int).toNat) (ka : Int).toNat))), (0, .ref (A 179)), (1, .int (Int32.ofInt a)), (2, .int (Int32.ofInt iz)), (3, .int (Int32.ofInt ka))]) (show cdA 227 53 = some (.istore 4, 2, 0, 0, 0) from rfl) (by decide) (fun _ h => h) h) ?_
        refine d_lift (fun k ws X h => z_load_n X (x := iz) (show cdA 227 55 = some (.iload_n 2, 1, 0, 0, 0) from rfl) (List.Mem.tail _ (List.Mem.tail _ (List.Mem.tail _ (List.Mem.head _)))) h) ?_
        have N3008 : ∀ e3009 : Int, (((iz ≠ 0) ∧ e3009 = 1) ∨ ((iz = 0) ∧ ((0 : Int) ≤ iC t 230 ((iC t (204 + (a : Int).toNat) (ka : Int).toNat)).toNat ∧ iC t 230 ((iC t (204 + (a : Int).toNat) (ka : Int).toNat)).toNat ≤ 1) ∧ (iC t 230 ((iC t (204 + (a : Int).toNat) (ka : Int).toNat)).toNat = iC s 230 ((iC t (204 + (a : Int).toNat) (ka : Int).toNat)).toNat) ∧ ((iC t 230 ((iC t (204 + (a : Int).toNat) (ka : Int).toNat)).toNat) = 0) ∧ e3009 = 0) ∨ ((iz = 0) ∧ ((0 : Int) ≤ iC t 230 ((iC t (204 + (a : Int).toNat) (ka : Int).toNat)).toNat ∧ iC t 230 ((iC t (204 + (a : Int).toNat) (ka : Int).toNat)).toNat ≤ 1) ∧ (iC t 230 ((iC t (204 + (a : Int).toNat) (ka : Int).toNat)).toNat = iC s 230 ((iC t (204 + (a : Int).toNat) (ka : Int).toNat)).toNat) ∧ ((iC t 230 ((iC t (204 + (a : Int).toNat) (ka : Int).toNat)).toNat) ≠ 0) ∧ e3009 = 1)) → DS l s0 D A dT 227 (rmN 227) [] [161] (TU T 161 7) Q (TU T 161 7) 74 [(4, .int (Int32.ofInt (iC t (204 + (a : Int).toNat) (ka : Int).toNat))), (0, .ref (A 179)), (1, .int (Int32.ofInt a)), (2, .int (Int32.ofInt iz)), (3, .int (Int32.ofInt ka))] [.int (Int32.ofInt e3009)] t := by
          intro e3009 he3009
          have re3009 : 0 ≤ e3009 ∧ e3009 ≤ 1 := by omega
          refine d_lift (fun k ws X h => z_store_n X (lv' := [(2, .int (Int32.ofInt e3009)), (4, .int (Int32.ofInt (iC t (204 + (a : Int).toNat) (ka : Int).toNat))), (0, .ref (A 179)), (1, .int (Int32.ofInt a)), (3, .int (Int32.ofInt ka))]) (show cdA 227 74 = some (.istore_n 2, 1, 0, 0, 0) from rfl) (by decide) (fun _ h => h) h) ?_
          refine d_lift (fun k ws X h => z_load_n X (x := ka) (show cdA 227 75 = some (.iload_n 3, 1, 0, 0, 0) from rfl) (List.Mem.tail _ (List.Mem.tail _ (List.Mem.tail _ (List.Mem.tail _ (List.Mem.head _))))) h) ?_
          refine d_br (bo_le _ _) bx_le (fun k ws X h1 h2 => z_if_le X (t := 172) (show cdA 227 76 = some (.ifCond .le 96, 3, 5, 0, 0) from rfl) (by decide) ⟨by first | exact oq_fa4e5087 hi.2.2.2.2.1 | omega, by first | exact oq_5bcd337f hi.2.2.2.2.2 | omega⟩ h1 h2) (fun g3010 => ?_) (fun g3010 => ?_)
          ·
            refine d_lift (fun k ws X h => z_load_n X (x := a) (show cdA 227 172 = some (.iload_n 1, 1, 0, 0, 0) from rfl) (List.Mem.tail _ (List.Mem.tail _ (List.Mem.tail _ (List.Mem.head _)))) h) ?_
            refine d_lift (fun k ws X h => z_const X (show cdA 227 173 = some (.iconst 1, 1, 0, 0, 0) from rfl) h) ?_
            refine d_lift (fun k ws X h => z_add X (show cdA 227 174 = some (.iadd, 1, 0, 0, 0) from rfl) h) ?_
            refine d_lift (fun k ws X h => z_store X (lv' := [(5, .int (Int32.ofInt (a + 1))), (2, .int (Int32.ofInt e3009)), (4, .int (Int32.ofInt (iC t (204 + (a : Int).toNat) (ka : Int).toNat))), (0, .ref (A 179)), (1, .int (Int32.ofInt a)), (3, .int (Int32.ofInt ka))]) (show cdA 227 175 = some (.istore 5, 2, 0, 0, 0) from rfl) (by decide) (fun _ h => h) h) ?_
            refine d_lvs (lv := [(0, .ref (A 179)), (1, .int (Int32.ofInt a)), (2, .int (Int32.ofInt e3009)), (3, .int (Int32.ofInt ka)), (4, .int (Int32.ofInt (iC t (204 + (a : Int).toNat) (ka : Int).toNat))), (5, .int (Int32.ofInt (a + 1)))]) (List.forall_mem_cons.mpr ⟨(List.Mem.tail _ (List.Mem.tail _ (List.Mem.tail _ (List.Mem.head _)))), (List.forall_mem_cons.mpr ⟨(List.Mem.tail _ (List.Mem.tail _ (List.Mem.tail _ (List.Mem.tail _ (List.Mem.head _))))), (List.forall_mem_cons.mpr ⟨(List.Mem.tail _ (List.Mem.head _)), (List.forall_mem_cons.mpr ⟨(List.Mem.tail _ (List.Mem.tail _ (List.Mem.tail _ (List.Mem.tail _ (List.Mem.tail _ (List.Mem.head _)))))), (List.forall_mem_cons.mpr ⟨(List.Mem.tail _ (List.Mem.tail _ (List.Mem.head _))), (List.forall_mem_cons.mpr ⟨(List.Mem.head _), (fun q h => absurd h List.not_mem_nil)⟩)⟩)⟩)⟩)⟩)⟩) ?_
            refine L177 ((12 - (a + 1) : Int).toNat + 1) t a e3009 ka (iC t (204 + (a : Int).toNat) (ka : Int).toNat) (a + 1) I F jjNW (by first | exact ⟨hi.1, hi.2.1, hi.2.2.1, oq_31e518ae re3009.2 re3009.1, hi.2.2.2.2.1, oq_095218f7 q3004 g3006, oq_e6af0b8d g3010, b3007.1, b3007.2, oq_b15b052d hi.1, oq_51d1204d hi.2.2.1⟩ | omega) (Nat.lt_succ_self _) ?_
            intro s3011 x3012 Is3011 Fs3011 JNW_s3011 hs3011
            have hta3013 : ∀ a ∈ ([161, 230] : List Nat), ∀ j, j < (bA a).2.2 → (TU T 161 7).2 a j := hta_g hta (by decide)
            refine d_lift (fun k ws X h => z_inc X (x := ka) (lv' := [(3, .int (Int32.ofInt (ka + 1))), (0, .ref (A 179)), (1, .int (Int32.ofInt a)), (2, .int (Int32.ofInt e3009)), (4, .int (Int32.ofInt (iC t (204 + (a : Int).toNat) (ka : Int).toNat))), (5, .int (Int32.ofInt x3012))]) (show cdA 227 278 = some (.iinc 3 1, 3, 0, 0, 0) from rfl) (by decide) (List.Mem.tail _ (List.Mem.tail _ (List.Mem.tail _ (List.Mem.head _)))) (fun _ h => h) h) ?_
            refine d_lift (fun k ws X h => z_goto X (t := 35) (show cdA 227 281 = some (.goto (-246), 3, 0, 0, 0) from rfl) (by decide) h) ?_
            refine d_lvs (lv := [(0, .ref (A 179)), (1, .int (Int32.ofInt a)), (2, .int (Int32.ofInt e3009)), (3, .int (Int32.ofInt (ka + 1)))]) (List.forall_mem_cons.mpr ⟨(List.Mem.tail _ (List.Mem.head _)), (List.forall_mem_cons.mpr ⟨(List.Mem.tail _ (List.Mem.tail _ (List.Mem.head _))), (List.forall_mem_cons.mpr ⟨(List.Mem.tail _ (List.Mem.tail _ (List.Mem.tail _ (List.Mem.head _)))), (List.forall_mem_cons.mpr ⟨(List.Mem.head _), (fun q h => absurd h List.not_mem_nil)⟩)⟩)⟩)⟩) ?_
            exact ih _ a e3009 (ka + 1) Is3011 Fs3011 JNW_s3011 (by first | exact ⟨hs3011.1, hs3011.2.1, hs3011.2.2.1, hs3011.2.2.2.1, oq_54f49eb5 hs3011.2.2.2.2.1, oq_3d4d89a6 hs3011.2.2.2.2.2.2.1⟩ | omega) (by first | exact qk_me hm (by decide) (oq_fa9b5cb9 hs3011.2.2.2.2.2.2.1) | omega) kx
          ·
            refine d_lift (fun k ws X h => z_aload_n X (x := A 179) (show cdA 227 79 = some (.aload_n 0, 1, 0, 0, 0) from rfl) (List.Mem.tail _ (List.Mem.tail _ (List.Mem.head _))) h) ?_
            refine d_liftS (fun k s X h => s_getR X 179 (show cdA 227 80 = some (.getfield 76, 3, 12, 37, 0) from rfl) (by decide) rfl rfl h) ?_
            refine d_lift (fun k ws X h => z_aload_n X (x := A 179) (show cdA 227 83 = some (.aload_n 0, 1, 0, 0, 0) from rfl) (List.Mem.tail _ (List.Mem.tail _ (List.Mem.head _))) h) ?_
            refine d_liftS (fun k s X h => s_getR X 179 (show cdA 227 84 = some (.getfield 64, 3, 12, 33, 0) from rfl) (by decide) rfl rfl h) ?_
            refine d_lift (fun k ws X h => z_load_n X (x := a) (show cdA 227 87 = some (.iload_n 1, 1, 0, 0, 0) from rfl) (List.Mem.tail _ (List.Mem.tail _ (List.Mem.tail _ (List.Mem.head _)))) h) ?_
            refine d_liftS (fun k s X h => z_aald X rw_230 (show cdA 227 88 = some (.aaload, 1, 0, 0, 0) from rfl) (by first | exact hi.1 | omega) (show a < 12 by first | exact oq_0ddfcfee hi.2.2.1 | omega) (by decide) h) ?_
            refine d_lift (fun k ws X h => z_load_n X (x := ka) (show cdA 227 89 = some (.iload_n 3, 1, 0, 0, 0) from rfl) (List.Mem.tail _ (List.Mem.tail _ (List.Mem.tail _ (List.Mem.tail _ (List.Mem.head _))))) h) ?_
            refine d_lift (fun k ws X h => z_const X (show cdA 227 90 = some (.iconst 1, 1, 0, 0, 0) from rfl) h) ?_
            refine d_lift (fun k ws X h => z_sub X (show cdA 227 91 = some (.isub, 1, 0, 0, 0) from rfl) h) ?_
            refine d_ald2 rw_230 (show cdA 227 92 = some (.iaload, 1, 0, 0, 0) from rfl) (show (a : Int).toNat < 12 by first | exact oq_9c5fa447 hi.2.2.1 | omega) (by first | exact oq_a4f22177 g3010 | omega) (show (ka - 1) < 24 by first | exact oq_19cb6f5b hi.2.2.2.2.2 | omega) (by decide) (Or.inr ((htn _ (show (a : Int).toNat < 12 by omega) (show (((a : Int).toNat : Nat) : Int) < iI s 90 by omega)).2.2.2 _ (show ((((ka - 1) : Int).toNat : Nat) : Int) < iC s 202 (a : Int).toNat by omega))) ?_
            have b3014 : (0 : Int) ≤ (iC t (204 + (a : Int).toNat) ((ka - 1) : Int).toNat) ∧ (iC t (204 + (a : Int).toNat) ((ka - 1) : Int).toNat) ≤ 127 := rw_bd rw_230 I (show (a : Int).toNat < 12 by first | exact oq_9c5fa447 hi.2.2.1 | omega) (show ((ka - 1) : Int).toNat < 24 by first | exact oq_f976b25c hi.2.2.2.2.2 | omega)
            refine d_zald 258 (show cdA 227 93 = some (.baload, 1, 0, 0, 0) from rfl) (by decide) rfl (by first | exact b3014.1 | omega) (show (iC t (204 + (a : Int).toNat) ((ka - 1) : Int).toNat) < 128 by first | exact oq_31b2bf10 b3014.2 | omega) (by decide) (hta3001 230 (by decide) _ (show ((iC t (204 + (a : Int).toNat) ((ka - 1) : Int).toNat)).toNat < 128 by first | exact oq_c7f4e9c1 b3014.2 | omega)) ?_
            have b3015 : (0 : Int) ≤ iC t 230 ((iC t (204 + (a : Int).toNat) ((ka - 1) : Int).toNat)).toNat ∧ iC t 230 ((iC t (204 + (a : Int).toNat) ((ka - 1) : Int).toNat)).toNat ≤ 1 := I.2 230 _ (show ((iC t (204 + (a : Int).toNat) ((ka - 1) : Int).toNat)).toNat < 128 by first | exact oq_c7f4e9c1 b3014.2 | omega)
            have q3016 : iC t 230 ((iC t (204 + (a : Int).toNat) ((ka - 1) : Int).toNat)).toNat = iC s 230 ((iC t (204 + (a : Int).toNat) ((ka - 1) : Int).toNat)).toNat := fm_c F (by decide)
            refine d_lift (fun k ws X h => z_store X (lv' := [(5, .int (Int32.ofInt (iC t 230 ((iC t (204 + (a : Int).toNat) ((ka - 1) : Int).toNat)).toNat))), (2, .int (Int32.ofInt e3009)), (4, .int (Int32.ofInt (iC t (204 + (a : Int).toNat) (ka : Int).toNat))), (0, .ref (A 179)), (1, .int (Int32.ofInt a)), (3, .int (Int32.ofInt ka))]) (show cdA 227 94 = some (.istore 5, 2, 0, 0, 0) from rfl) (by decide) (fun _ h => h) h) ?_
            refine d_lift (fun k ws X h => z_load X (x := (iC t 230 ((iC t (204 + (a : Int).toNat) ((ka - 1) : Int).toNat)).toNat)) (show cdA 227 96 = some (.iload 5, 2, 0, 0, 0) from rfl) (List.Mem.head _) h) ?_
            refine d_lift (fun k ws X h => z_aload_n X (x := A 179) (show cdA 227 98 = some (.aload_n 0, 1, 0, 0, 0) from rfl) (List.Mem.tail _ (List.Mem.tail _ (List.Mem.tail _ (List.Mem.head _)))) h) ?_
            refine d_liftS (fun k s X h => s_getR X 179 (show cdA 227 99 = some (.getfield 76, 3, 12, 37, 0) from rfl) (by decide) rfl rfl h) ?_
            refine d_lift (fun k ws X h => z_load X (x := (iC t (204 + (a : Int).toNat) (ka : Int).toNat)) (show cdA 227 102 = some (.iload 4, 2, 0, 0, 0) from rfl) (List.Mem.tail _ (List.Mem.tail _ (List.Mem.head _))) h) ?_
            refine d_zald 258 (show cdA 227 104 = some (.baload, 1, 0, 0, 0) from rfl) (by decide) rfl (by first | exact b3007.1 | omega) (show (iC t (204 + (a : Int).toNat) (ka : Int).toNat) < 128 by first | exact oq_31b2bf10 b3007.2 | omega) (by decide) (hta3001 230 (by decide) _ (show ((iC t (204 + (a : Int).toNat) (ka : Int).toNat)).toNat < 128 by first | exact oq_c7f4e9c1 b3007.2 | omega)) ?_
            have b3017 : (0 : Int) ≤ iC t 230 ((iC t (204 + (a : Int).toNat) (ka : Int).toNat)).toNat ∧ iC t 230 ((iC t (204 + (a : Int).toNat) (ka : Int).toNat)).toNat ≤ 1 := I.2 230 _ (show ((iC t (204 + (a : Int).toNat) (ka : Int).toNat)).toNat < 128 by first | exact oq_c7f4e9c1 b3007.2 | omega)
            have q3018 : iC t 230 ((iC t (204 + (a : Int).toNat) (ka : Int).toNat)).toNat = iC s 230 ((iC t (204 + (a : Int).toNat) (ka : Int).toNat)).toNat := fm_c F (by decide)
            refine d_br (bo_eq _ _) bx_eq (fun k ws X h1 h2 => z_icmp_eq X (t := 123) (show cdA 227 105 = some (.if_icmp .eq 18, 3, 0, 0, 0) from rfl) (by decide) (rng_to _) (rng_to _) h1 h2) (fun g3019 => ?_) (fun g3019 => ?_)
            ·
              refine d_lift (fun k ws X h => z_load X (x := (iC t 230 ((iC t (204 + (a : Int).toNat) ((ka - 1) : Int).toNat)).toNat)) (show cdA 227 123 = some (.iload 5, 2, 0, 0, 0) from rfl) (List.Mem.head _) h) ?_
              refine d_br (bo_eq _ _) bx_eq (fun k ws X h1 h2 => z_if_eq X (t := 172) (show cdA 227 125 = some (.ifCond .eq 47, 3, 0, 0, 0) from rfl) (by decide) (rng_to _) h1 h2) (fun g3020 => ?_) (fun g3020 => ?_)
              ·
                refine d_lift (fun k ws X h => z_load_n X (x := a) (show cdA 227 172 = some (.iload_n 1, 1, 0, 0, 0) from rfl) (List.Mem.tail _ (List.Mem.tail _ (List.Mem.tail _ (List.Mem.tail _ (List.Mem.head _))))) h) ?_
                refine d_lift (fun k ws X h => z_const X (show cdA 227 173 = some (.iconst 1, 1, 0, 0, 0) from rfl) h) ?_
                refine d_lift (fun k ws X h => z_add X (show cdA 227 174 = some (.iadd, 1, 0, 0, 0) from rfl) h) ?_
                refine d_lift (fun k ws X h => z_store X (lv' := [(5, .int (Int32.ofInt (a + 1))), (2, .int (Int32.ofInt e3009)), (4, .int (Int32.ofInt (iC t (204 + (a : Int).toNat) (ka : Int).toNat))), (0, .ref (A 179)), (1, .int (Int32.ofInt a)), (3, .int (Int32.ofInt ka))]) (show cdA 227 175 = some (.istore 5, 2, 0, 0, 0) from rfl) (by decide) (fun _ h => h) h) ?_
                refine d_lvs (lv := [(0, .ref (A 179)), (1, .int (Int32.ofInt a)), (2, .int (Int32.ofInt e3009)), (3, .int (Int32.ofInt ka)), (4, .int (Int32.ofInt (iC t (204 + (a : Int).toNat) (ka : Int).toNat))), (5, .int (Int32.ofInt (a + 1)))]) (List.forall_mem_cons.mpr ⟨(List.Mem.tail _ (List.Mem.tail _ (List.Mem.tail _ (List.Mem.head _)))), (List.forall_mem_cons.mpr ⟨(List.Mem.tail _ (List.Mem.tail _ (List.Mem.tail _ (List.Mem.tail _ (List.Mem.head _))))), (List.forall_mem_cons.mpr ⟨(List.Mem.tail _ (List.Mem.head _)), (List.forall_mem_cons.mpr ⟨(List.Mem.tail _ (List.Mem.tail _ (List.Mem.tail _ (List.Mem.tail _ (List.Mem.tail _ (List.Mem.head _)))))), (List.forall_mem_cons.mpr ⟨(List.Mem.tail _ (List.Mem.tail _ (List.Mem.head _))), (List.forall_mem_cons.mpr ⟨(List.Mem.head _), (fun q h => absurd h List.not_mem_nil)⟩)⟩)⟩)⟩)⟩)⟩) ?_
                refine L177 ((12 - (a + 1) : Int).toNat + 1) t a e3009 ka (iC t (204 + (a : Int).toNat) (ka : Int).toNat) (a + 1) I F jjNW (by first | exact ⟨hi.1, hi.2.1, hi.2.2.1, oq_31e518ae re3009.2 re3009.1, hi.2.2.2.2.1, oq_095218f7 q3004 g3006, oq_10212474 g3006 b3002.2, b3007.1, b3007.2, oq_b15b052d hi.1, oq_51d1204d hi.2.2.1⟩ | omega) (Nat.lt_succ_self _) ?_
                intro s3021 x3022 Is3021 Fs3021 JNW_s3021 hs3021
                have hta3023 : ∀ a ∈ ([161, 230] : List Nat), ∀ j, j < (bA a).2.2 → (TU T 161 7).2 a j := hta_g hta (by decide)
                refine d_lift (fun k ws X h => z_inc X (x := ka) (lv' := [(3, .int (Int32.ofInt (ka + 1))), (0, .ref (A 179)), (1, .int (Int32.ofInt a)), (2, .int (Int32.ofInt e3009)), (4, .int (Int32.ofInt (iC t (204 + (a : Int).toNat) (ka : Int).toNat))), (5, .int (Int32.ofInt x3022))]) (show cdA 227 278 = some (.iinc 3 1, 3, 0, 0, 0) from rfl) (by decide) (List.Mem.tail _ (List.Mem.tail _ (List.Mem.tail _ (List.Mem.head _)))) (fun _ h => h) h) ?_
                refine d_lift (fun k ws X h => z_goto X (t := 35) (show cdA 227 281 = some (.goto (-246), 3, 0, 0, 0) from rfl) (by decide) h) ?_
                refine d_lvs (lv := [(0, .ref (A 179)), (1, .int (Int32.ofInt a)), (2, .int (Int32.ofInt e3009)), (3, .int (Int32.ofInt (ka + 1)))]) (List.forall_mem_cons.mpr ⟨(List.Mem.tail _ (List.Mem.head _)), (List.forall_mem_cons.mpr ⟨(List.Mem.tail _ (List.Mem.tail _ (List.Mem.head _))), (List.forall_mem_cons.mpr ⟨(List.Mem.tail _ (List.Mem.tail _ (List.Mem.tail _ (List.Mem.head _)))), (List.forall_mem_cons.mpr ⟨(List.Mem.head _), (fun q h => absurd h List.not_mem_nil)⟩)⟩)⟩)⟩) ?_
                exact ih _ a e3009 (ka + 1) Is3021 Fs3021 JNW_s3021 (by first | exact ⟨hs3021.1, hs3021.2.1, hs3021.2.2.1, hs3021.2.2.2.1, oq_54f49eb5 hs3021.2.2.2.2.1, oq_3d4d89a6 hs3021.2.2.2.2.2.2.1⟩ | omega) (by first | exact qk_me hm (by decide) (oq_fa9b5cb9 hs3021.2.2.2.2.2.2.1) | omega) kx
              ·
                refine d_lift (fun k ws X h => z_aload_n X (x := A 179) (show cdA 227 128 = some (.aload_n 0, 1, 0, 0, 0) from rfl) (List.Mem.tail _ (List.Mem.tail _ (List.Mem.tail _ (List.Mem.head _)))) h) ?_
                refine d_liftS (fun k s X h => s_getR X 179 (show cdA 227 129 = some (.getfield 76, 3, 12, 37, 0) from rfl) (by decide) rfl rfl h) ?_
                refine d_lift (fun k ws X h => z_load X (x := (iC t (204 + (a : Int).toNat) (ka : Int).toNat)) (show cdA 227 132 = some (.iload 4, 2, 0, 0, 0) from rfl) (List.Mem.tail _ (List.Mem.tail _ (List.Mem.head _))) h) ?_
                refine d_zald 258 (show cdA 227 134 = some (.baload, 1, 0, 0, 0) from rfl) (by decide) rfl (by first | exact b3007.1 | omega) (show (iC t (204 + (a : Int).toNat) (ka : Int).toNat) < 128 by first | exact oq_31b2bf10 b3007.2 | omega) (by decide) (hta3001 230 (by decide) _ (show ((iC t (204 + (a : Int).toNat) (ka : Int).toNat)).toNat < 128 by first | exact oq_c7f4e9c1 b3007.2 | omega)) ?_
                have b3024 : (0 : Int) ≤ iC t 230 ((iC t (204 + (a : Int).toNat) (ka : Int).toNat)).toNat ∧ iC t 230 ((iC t (204 + (a : Int).toNat) (ka : Int).toNat)).toNat ≤ 1 := I.2 230 _ (show ((iC t (204 + (a : Int).toNat) (ka : Int).toNat)).toNat < 128 by first | exact oq_c7f4e9c1 b3007.2 | omega)
                have q3025 : iC t 230 ((iC t (204 + (a : Int).toNat) (ka : Int).toNat)).toNat = iC s 230 ((iC t (204 + (a : Int).toNat) (ka : Int).toNat)).toNat := fm_c F (by decide)
                refine d_br (bo_eq _ _) bx_eq (fun k ws X h1 h2 => z_if_eq X (t := 172) (show cdA 227 135 = some (.ifCond .eq 37, 3, 0, 0, 0) from rfl) (by decide) (rng_to _) h1 h2) (fun g3026 => ?_) (fun g3026 => ?_)
                ·
                  refine d_lift (fun k ws X h => z_load_n X (x := a) (show cdA 227 172 = some (.iload_n 1, 1, 0, 0, 0) from rfl) (List.Mem.tail _ (List.Mem.tail _ (List.Mem.tail _ (List.Mem.tail _ (List.Mem.head _))))) h) ?_
                  refine d_lift (fun k ws X h => z_const X (show cdA 227 173 = some (.iconst 1, 1, 0, 0, 0) from rfl) h) ?_
                  refine d_lift (fun k ws X h => z_add X (show cdA 227 174 = some (.iadd, 1, 0, 0, 0) from rfl) h) ?_
                  refine d_lift (fun k ws X h => z_store X (lv' := [(5, .int (Int32.ofInt (a + 1))), (2, .int (Int32.ofInt e3009)), (4, .int (Int32.ofInt (iC t (204 + (a : Int).toNat) (ka : Int).toNat))), (0, .ref (A 179)), (1, .int (Int32.ofInt a)), (3, .int (Int32.ofInt ka))]) (show cdA 227 175 = some (.istore 5, 2, 0, 0, 0) from rfl) (by decide) (fun _ h => h) h) ?_
                  refine d_lvs (lv := [(0, .ref (A 179)), (1, .int (Int32.ofInt a)), (2, .int (Int32.ofInt e3009)), (3, .int (Int32.ofInt ka)), (4, .int (Int32.ofInt (iC t (204 + (a : Int).toNat) (ka : Int).toNat))), (5, .int (Int32.ofInt (a + 1)))]) (List.forall_mem_cons.mpr ⟨(List.Mem.tail _ (List.Mem.tail _ (List.Mem.tail _ (List.Mem.head _)))), (List.forall_mem_cons.mpr ⟨(List.Mem.tail _ (List.Mem.tail _ (List.Mem.tail _ (List.Mem.tail _ (List.Mem.head _))))), (List.forall_mem_cons.mpr ⟨(List.Mem.tail _ (List.Mem.head _)), (List.forall_mem_cons.mpr ⟨(List.Mem.tail _ (List.Mem.tail _ (List.Mem.tail _ (List.Mem.tail _ (List.Mem.tail _ (List.Mem.head _)))))), (List.forall_mem_cons.mpr ⟨(List.Mem.tail _ (List.Mem.tail _ (List.Mem.head _))), (List.forall_mem_cons.mpr ⟨(List.Mem.head _), (fun q h => absurd h List.not_mem_nil)⟩)⟩)⟩)⟩)⟩)⟩) ?_
                  refine L177 ((12 - (a + 1) : Int).toNat + 1) t a e3009 ka (iC t (204 + (a : Int).toNat) (ka : Int).toNat) (a + 1) I F jjNW (by first | exact ⟨hi.1, hi.2.1, hi.2.2.1, oq_2033c30a g3026 g3020 g3019 b3015.1, hi.2.2.2.2.1, oq_095218f7 q3004 g3006, oq_10212474 g3006 b3002.2, b3007.1, b3007.2, oq_b15b052d hi.1, oq_51d1204d hi.2.2.1⟩ | omega) (Nat.lt_succ_self _) ?_
                  intro s3027 x3028 Is3027 Fs3027 JNW_s3027 hs3027
                  have hta3029 : ∀ a ∈ ([161, 230] : List Nat), ∀ j, j < (bA a).2.2 → (TU T 161 7).2 a j := hta_g hta (by decide)
                  refine d_lift (fun k ws X h => z_inc X (x := ka) (lv' := [(3, .int (Int32.ofInt (ka + 1))), (0, .ref (A 179)), (1, .int (Int32.ofInt a)), (2, .int (Int32.ofInt e3009)), (4, .int (Int32.ofInt (iC t (204 + (a : Int).toNat) (ka : Int).toNat))), (5, .int (Int32.ofInt x3028))]) (show cdA 227 278 = some (.iinc 3 1, 3, 0, 0, 0) from rfl) (by decide) (List.Mem.tail _ (List.Mem.tail _ (List.Mem.tail _ (List.Mem.head _)))) (fun _ h => h) h) ?_
                  refine d_lift (fun k ws X h => z_goto X (t := 35) (show cdA 227 281 = some (.goto (-246), 3, 0, 0, 0) from rfl) (by decide) h) ?_
                  refine d_lvs (lv := [(0, .ref (A 179)), (1, .int (Int32.ofInt a)), (2, .int (Int32.ofInt e3009)), (3, .int (Int32.ofInt (ka + 1)))]) (List.forall_mem_cons.mpr ⟨(List.Mem.tail _ (List.Mem.head _)), (List.forall_mem_cons.mpr ⟨(List.Mem.tail _ (List.Mem.tail _ (List.Mem.head _))), (List.forall_mem_cons.mpr ⟨(List.Mem.tail _ (List.Mem.tail _ (List.Mem.tail _ (List.Mem.head _)))), (List.forall_mem_cons.mpr ⟨(List.Mem.head _), (fun q h => absurd h List.not_mem_nil)⟩)⟩)⟩)⟩) ?_
                  exact ih _ a e3009 (ka + 1) Is3027 Fs3027 JNW_s3027 (by first | exact ⟨hs3027.1, hs3027.2.1, hs3027.2.2.1, hs3027.2.2.2.1, oq_54f49eb5 hs3027.2.2.2.2.1, oq_3d4d89a6 hs3027.2.2.2.2.2.2.1⟩ | omega) (by first | exact qk_me hm (by decide) (oq_fa9b5cb9 hs3027.2.2.2.2.2.2.1) | omega) kx
                ·
                  refine d_lift (fun k ws X h => z_aload_n X (x := A 179) (show cdA 227 138 = some (.aload_n 0, 1, 0, 0, 0) from rfl) (List.Mem.tail _ (List.Mem.tail _ (List.Mem.tail _ (List.Mem.head _)))) h) ?_
                  refine d_liftS (fun k s X h => s_getR X 179 (show cdA 227 139 = some (.getfield 64, 3, 12, 33, 0) from rfl) (by decide) rfl rfl h) ?_
                  refine d_lift (fun k ws X h => z_load_n X (x := a) (show cdA 227 142 = some (.iload_n 1, 1, 0, 0, 0) from rfl) (List.Mem.tail _ (List.Mem.tail _ (List.Mem.tail _ (List.Mem.tail _ (List.Mem.head _))))) h) ?_
                  refine d_liftS (fun k s X h => z_aald X rw_230 (show cdA 227 143 = some (.aaload, 1, 0, 0, 0) from rfl) (by first | exact hi.1 | omega) (show a < 12 by first | exact oq_0ddfcfee hi.2.2.1 | omega) (by decide) h) ?_
                  refine d_lift (fun k ws X h => z_load_n X (x := ka) (show cdA 227 144 = some (.iload_n 3, 1, 0, 0, 0) from rfl) (List.Mem.tail _ (List.Mem.tail _ (List.Mem.tail _ (List.Mem.tail _ (List.Mem.tail _ (List.Mem.head _)))))) h) ?_
                  refine d_lift (fun k ws X h => z_const X (show cdA 227 145 = some (.iconst 1, 1, 0, 0, 0) from rfl) h) ?_
                  refine d_lift (fun k ws X h => z_sub X (show cdA 227 146 = some (.isub, 1, 0, 0, 0) from rfl) h) ?_
                  refine d_ald2 rw_230 (show cdA 227 147 = some (.iaload, 1, 0, 0, 0) from rfl) (show (a : Int).toNat < 12 by first | exact oq_9c5fa447 hi.2.2.1 | omega) (by first | exact oq_a4f22177 g3010 | omega) (show (ka - 1) < 24 by first | exact oq_19cb6f5b hi.2.2.2.2.2 | omega) (by decide) (Or.inr ((htn _ (show (a : Int).toNat < 12 by omega) (show (((a : Int).toNat : Nat) : Int) < iI s 90 by omega)).2.2.2 _ (show ((((ka - 1) : Int).toNat : Nat) : Int) < iC s 202 (a : Int).toNat by omega))) ?_
                  have b3030 : (0 : Int) ≤ (iC t (204 + (a : Int).toNat) ((ka - 1) : Int).toNat) ∧ (iC t (204 + (a : Int).toNat) ((ka - 1) : Int).toNat) ≤ 127 := rw_bd rw_230 I (show (a : Int).toNat < 12 by first | exact oq_9c5fa447 hi.2.2.1 | omega) (show ((ka - 1) : Int).toNat < 24 by first | exact oq_f976b25c hi.2.2.2.2.2 | omega)
                  refine d_lift (fun k ws X h => z_load X (x := (iC t (204 + (a : Int).toNat) (ka : Int).toNat)) (show cdA 227 148 = some (.iload 4, 2, 0, 0, 0) from rfl) (List.Mem.tail _ (List.Mem.tail _ (List.Mem.head _))) h) ?_
                  refine d_callT (As := [.int (Int32.ofInt (iC t (204 + (a : Int).toNat) ((ka - 1) : Int).toNat)), .int (Int32.ofInt (iC t (204 + (a : Int).toNat) (ka : Int).toNat))]) (st := []) (show cdA 227 150 = some (.invokestatic 312, 3, 225, 1, 0) from rfl) rfl (d_stepOf (T := TU T 161 7) G I (by first | exact ⟨b3030.1, b3030.2⟩ | omega) (by first | exact ⟨b3007.1, b3007.2⟩ | omega) (fun q h => hti q ((by decide : ∀ q ∈ ([] : List Nat), q ∈ ([90, 89] : List Nat)) q h)) (fun a h => hta3001 a ((by decide : ∀ q ∈ ([] : List Nat), q ∈ ([161, 230] : List Nat)) a h))) ⟨rfl, rfl⟩ ⟨(show 6 + 1 ≤ 8 from oq_42eed11c), (show 8 + (mNL (miB 225) + 11) + 100 ≤ 143 from oq_e99eeac0)⟩ (Nat.le_of_ble_eq_true rfl) (by decide) (by decide) (fun ee s3031 hq => ?_) (fun vv s3031 hq => ?_)
                  · obtain ⟨Is3031, Fs3031, e3032, hv, hrs3031, hps3031⟩ := hq; cases hv
                  obtain ⟨Is3031, Fs3031, e3032, hv, hrs3031, hps3031⟩ := hq
                  cases hv
                  have Gs3031 := fm_ts F Fs3031 (by decide) (by decide)
                  have JNW_s3031 : NW s3031 := NW_fm Fs3031 (by decide) jjNW
                  show DS l s0 D A dT 227 (rmN 227) [] [161] (TU T 161 7) Q (TU T 161 7) 153 [(5, .int (Int32.ofInt (iC t 230 ((iC t (204 + (a : Int).toNat) ((ka - 1) : Int).toNat)).toNat))), (2, .int (Int32.ofInt e3009)), (4, .int (Int32.ofInt (iC t (204 + (a : Int).toNat) (ka : Int).toNat))), (0, .ref (A 179)), (1, .int (Int32.ofInt a)), (3, .int (Int32.ofInt ka))] [.int (Int32.ofInt e3032)] s3031
                  refine d_lift (fun k ws X h => z_const X (show cdA 227 153 = some (.iconst 3, 1, 0, 0, 0) from rfl) h) ?_
                  refine d_br (bo_le _ _) bx_le (fun k ws X h1 h2 => z_icmp_le X (t := 172) (show cdA 227 154 = some (.if_icmp .le 18, 3, 5, 0, 0) from rfl) (by decide) hrs3031 (by decide) h1 h2) (fun g3033 => ?_) (fun g3033 => ?_)
                  ·
                    refine d_lift (fun k ws X h => z_load_n X (x := a) (show cdA 227 172 = some (.iload_n 1, 1, 0, 0, 0) from rfl) (List.Mem.tail _ (List.Mem.tail _ (List.Mem.tail _ (List.Mem.tail _ (List.Mem.head _))))) h) ?_
                    refine d_lift (fun k ws X h => z_const X (show cdA 227 173 = some (.iconst 1, 1, 0, 0, 0) from rfl) h) ?_
                    refine d_lift (fun k ws X h => z_add X (show cdA 227 174 = some (.iadd, 1, 0, 0, 0) from rfl) h) ?_
                    refine d_lift (fun k ws X h => z_store X (lv' := [(5, .int (Int32.ofInt (a + 1))), (2, .int (Int32.ofInt e3009)), (4, .int (Int32.ofInt (iC t (204 + (a : Int).toNat) (ka : Int).toNat))), (0, .ref (A 179)), (1, .int (Int32.ofInt a)), (3, .int (Int32.ofInt ka))]) (show cdA 227 175 = some (.istore 5, 2, 0, 0, 0) from rfl) (by decide) (fun _ h => h) h) ?_
                    refine d_lvs (lv := [(0, .ref (A 179)), (1, .int (Int32.ofInt a)), (2, .int (Int32.ofInt e3009)), (3, .int (Int32.ofInt ka)), (4, .int (Int32.ofInt (iC t (204 + (a : Int).toNat) (ka : Int).toNat))), (5, .int (Int32.ofInt (a + 1)))]) (List.forall_mem_cons.mpr ⟨(List.Mem.tail _ (List.Mem.tail _ (List.Mem.tail _ (List.Mem.head _)))), (List.forall_mem_cons.mpr ⟨(List.Mem.tail _ (List.Mem.tail _ (List.Mem.tail _ (List.Mem.tail _ (List.Mem.head _))))), (List.forall_mem_cons.mpr ⟨(List.Mem.tail _ (List.Mem.head _)), (List.forall_mem_cons.mpr ⟨(List.Mem.tail _ (List.Mem.tail _ (List.Mem.tail _ (List.Mem.tail _ (List.Mem.tail _ (List.Mem.head _)))))), (List.forall_mem_cons.mpr ⟨(List.Mem.tail _ (List.Mem.tail _ (List.Mem.head _))), (List.forall_mem_cons.mpr ⟨(List.Mem.head _), (fun q h => absurd h List.not_mem_nil)⟩)⟩)⟩)⟩)⟩)⟩) ?_
                    refine L177 ((12 - (a + 1) : Int).toNat + 1) s3031 a e3009 ka (iC t (204 + (a : Int).toNat) (ka : Int).toNat) (a + 1) Is3031 Gs3031 JNW_s3031 (by first | exact ⟨hi.1, hi.2.1, hi.2.2.1, oq_31e518ae re3009.2 re3009.1, hi.2.2.2.2.1, oq_095218f7 q3004 g3006, oq_10212474 g3006 b3002.2, b3007.1, b3007.2, oq_b15b052d hi.1, oq_51d1204d hi.2.2.1⟩ | omega) (Nat.lt_succ_self _) ?_
                    intro s3034 x3035 Is3034 Fs3034 JNW_s3034 hs3034
                    have hta3036 : ∀ a ∈ ([161, 230] : List Nat), ∀ j, j < (bA a).2.2 → (TU T 161 7).2 a j := hta_g hta (by decide)
                    refine d_lift (fun k ws X h => z_inc X (x := ka) (lv' := [(3, .int (Int32.ofInt (ka + 1))), (0, .ref (A 179)), (1, .int (Int32.ofInt a)), (2, .int (Int32.ofInt e3009)), (4, .int (Int32.ofInt (iC t (204 + (a : Int).toNat) (ka : Int).toNat))), (5, .int (Int32.ofInt x3035))]) (show cdA 227 278 = some (.iinc 3 1, 3, 0, 0, 0) from rfl) (by decide) (List.Mem.tail _ (List.Mem.tail _ (List.Mem.tail _ (List.Mem.head _)))) (fun _ h => h) h) ?_
                    refine d_lift (fun k ws X h => z_goto X (t := 35) (show cdA 227 281 = some (.goto (-246), 3, 0, 0, 0) from rfl) (by decide) h) ?_
                    refine d_lvs (lv := [(0, .ref (A 179)), (1, .int (Int32.ofInt a)), (2, .int (Int32.ofInt e3009)), (3, .int (Int32.ofInt (ka + 1)))]) (List.forall_mem_cons.mpr ⟨(List.Mem.tail _ (List.Mem.head _)), (List.forall_mem_cons.mpr ⟨(List.Mem.tail _ (List.Mem.tail _ (List.Mem.head _))), (List.forall_mem_cons.mpr ⟨(List.Mem.tail _ (List.Mem.tail _ (List.Mem.tail _ (List.Mem.head _)))), (List.forall_mem_cons.mpr ⟨(List.Mem.head _), (fun q h => absurd h List.not_mem_nil)⟩)⟩)⟩)⟩) ?_
                    exact ih _ a e3009 (ka + 1) Is3034 Fs3034 JNW_s3034 (by first | exact ⟨hs3034.1, hs3034.2.1, hs3034.2.2.1, hs3034.2.2.2.1, oq_54f49eb5 hs3034.2.2.2.2.1, oq_3d4d89a6 hs3034.2.2.2.2.2.2.1⟩ | omega) (by first | exact qk_me hm (by decide) (oq_fa9b5cb9 hs3034.2.2.2.2.2.2.1) | omega) kx
                  ·
                    refine d_lift (fun k ws X h => z_aload_n X (x := A 179) (show cdA 227 157 = some (.aload_n 0, 1, 0, 0, 0) from rfl) (List.Mem.tail _ (List.Mem.tail _ (List.Mem.tail _ (List.Mem.head _)))) h) ?_
                    refine d_liftS (fun k s X h => s_getR X 179 (show cdA 227 158 = some (.getfield 32, 3, 12, 21, 0) from rfl) (by decide) rfl rfl h) ?_
                    refine d_lift (fun k ws X h => z_const X (show cdA 227 161 = some (.iconst 3, 1, 0, 0, 0) from rfl) h) ?_
                    refine d_lift (fun k ws X h => w_dup2_11 X.1 (ax_d X (show cdA 227 162 = some (.dup2, 1, 0, 0, 0) from rfl)) rfl rfl h) ?_
                    refine d_ald 184 (show cdA 227 163 = some (.iaload, 1, 0, 0, 0) from rfl) (by decide) rfl (by decide) (show 3 < 7 by decide) (by decide) (hta3001 161 (by decide) _ (show (3 : Int).toNat < 7 by first | exact oq_bea6b7ec | omega)) ?_
                    have b3037 : ((-2147483648) : Int) ≤ iC s3031 161 (3 : Int).toNat ∧ iC s3031 161 (3 : Int).toNat ≤ 2147483647 := Is3031.2 161 _ (show (3 : Int).toNat < 7 by first | exact oq_bea6b7ec | omega)
                    refine d_lift (fun k ws X h => z_aload_n X (x := A 179) (show cdA 227 164 = some (.aload_n 0, 1, 0, 0, 0) from rfl) (List.Mem.tail _ (List.Mem.tail _ (List.Mem.tail _ (List.Mem.head _)))) h) ?_
                    refine d_liftS (fun k s X h => s_getR X 179 (show cdA 227 165 = some (.getfield 61, 3, 12, 32, 0) from rfl) (by decide) rfl rfl h) ?_
                    refine d_lift (fun k ws X h => z_load_n X (x := a) (show cdA 227 168 = some (.iload_n 1, 1, 0, 0, 0) from rfl) (List.Mem.tail _ (List.Mem.tail _ (List.Mem.tail _ (List.Mem.tail _ (List.Mem.head _))))) h) ?_
                    refine d_ald 229 (show cdA 227 169 = some (.iaload, 1, 0, 0, 0) from rfl) (by decide) rfl (by first | exact hi.1 | omega) (show a < 12 by first | exact oq_0ddfcfee hi.2.2.1 | omega) (by decide) (Or.inr ((htn _ (show (a : Int).toNat < 12 by omega) (show (((a : Int).toNat : Nat) : Int) < iI s 90 by omega)).2.1)) ?_
                    have b3038 : (0 : Int) ≤ iC s3031 203 (a).toNat ∧ iC s3031 203 (a).toNat ≤ 50 := Is3031.2 203 _ (show (a).toNat < 12 by first | exact oq_9c5fa447 hi.2.2.1 | omega)
                    have q3039 : iC s3031 203 (a).toNat = iC s 203 (a).toNat := fm_c Gs3031 (by decide)
                    refine d_lift (fun k ws X h => z_add X (show cdA 227 170 = some (.iadd, 1, 0, 0, 0) from rfl) h) ?_
                    refine d_any (fun y3040 hy3040 => ?_)
                    refine d_ast 184 (show cdA 227 171 = some (.iastore, 1, 0, 0, 0) from rfl) (by decide) rfl (by decide) (show 3 < 7 by decide) (by decide) (show 161 ∈ _ by decide) (show ((-2147483648) : Int) ≤ y3040 ∧ y3040 ≤ 2147483647 by first | exact ⟨hy3040.1, hy3040.2⟩ | omega) hy3040 ?_
                    refine d_mono (T' := TU T 161 7) (fun _ h => h) (fun _ _ h => Or.inr h) ?_
                    obtain ⟨s3041, hs3041⟩ : ∃ x0, x0 = uC s3031 161 (3 : Int).toNat (Int32.ofInt y3040) := ⟨_, rfl⟩
                    rw [← hs3041]
                    have Is3041 : Bd s3041 := by rw [hs3041]; exact bd_C Is3031 (show ((-2147483648) : Int) ≤ y3040 ∧ y3040 ≤ 2147483647 by first | exact ⟨hy3040.1, hy3040.2⟩ | omega) hy3040
                    have Fs3041 := fm_C (i := (3 : Int).toNat) (x := Int32.ofInt y3040) Gs3031 (show 161 ∈ _ by decide)
                    rw [← hs3041] at Fs3041
                    have fs3041 : Fm [] [161] s3031 s3041 := by rw [hs3041]; exact fm_C (fm_rf _ _ _) (show 161 ∈ _ by decide)
                    have JNW_s3041 : NW s3041 := NW_fm fs3041 (by decide) JNW_s3031
                    refine d_lift (fun k ws X h => z_load_n X (x := a) (show cdA 227 172 = some (.iload_n 1, 1, 0, 0, 0) from rfl) (List.Mem.tail _ (List.Mem.tail _ (List.Mem.tail _ (List.Mem.tail _ (List.Mem.head _))))) h) ?_
                    refine d_lift (fun k ws X h => z_const X (show cdA 227 173 = some (.iconst 1, 1, 0, 0, 0) from rfl) h) ?_
                    refine d_lift (fun k ws X h => z_add X (show cdA 227 174 = some (.iadd, 1, 0, 0, 0) from rfl) h) ?_
                    refine d_lift (fun k ws X h => z_store X (lv' := [(5, .int (Int32.ofInt (a + 1))), (2, .int (Int32.ofInt e3009)), (4, .int (Int32.ofInt (iC t (204 + (a : Int).toNat) (ka : Int).toNat))), (0, .ref (A 179)), (1, .int (Int32.ofInt a)), (3, .int (Int32.ofInt ka))]) (show cdA 227 175 = some (.istore 5, 2, 0, 0, 0) from rfl) (by decide) (fun _ h => h) h) ?_
                    refine d_lvs (lv := [(0, .ref (A 179)), (1, .int (Int32.ofInt a)), (2, .int (Int32.ofInt e3009)), (3, .int (Int32.ofInt ka)), (4, .int (Int32.ofInt (iC t (204 + (a : Int).toNat) (ka : Int).toNat))), (5, .int (Int32.ofInt (a + 1)))]) (List.forall_mem_cons.mpr ⟨(List.Mem.tail _ (List.Mem.tail _ (List.Mem.tail _ (List.Mem.head _)))), (List.forall_mem_cons.mpr ⟨(List.Mem.tail _ (List.Mem.tail _ (List.Mem.tail _ (List.Mem.tail _ (List.Mem.head _))))), (List.forall_mem_cons.mpr ⟨(List.Mem.tail _ (List.Mem.head _)), (List.forall_mem_cons.mpr ⟨(List.Mem.tail _ (List.Mem.tail _ (List.Mem.tail _ (List.Mem.tail _ (List.Mem.tail _ (List.Mem.head _)))))), (List.forall_mem_cons.mpr ⟨(List.Mem.tail _ (List.Mem.tail _ (List.Mem.head _))), (List.forall_mem_cons.mpr ⟨(List.Mem.head _), (fun q h => absurd h List.not_mem_nil)⟩)⟩)⟩)⟩)⟩)⟩) ?_
                    refine L177 ((12 - (a + 1) : Int).toNat + 1) s3041 a e3009 ka (iC t (204 + (a : Int).toNat) (ka : Int).toNat) (a + 1) Is3041 Fs3041 JNW_s3041 (by first | exact ⟨hi.1, hi.2.1, hi.2.2.1, oq_31e518ae re3009.2 re3009.1, hi.2.2.2.2.1, oq_095218f7 q3004 g3006, oq_10212474 g3006 b3002.2, b3007.1, b3007.2, oq_b15b052d hi.1, oq_51d1204d hi.2.2.1⟩ | omega) (Nat.lt_succ_self _) ?_
                    intro s3042 x3043 Is3042 Fs3042 JNW_s3042 hs3042
                    have hta3044 : ∀ a ∈ ([161, 230] : List Nat), ∀ j, j < (bA a).2.2 → (TU T 161 7).2 a j := hta_g hta (by decide)
                    refine d_lift (fun k ws X h => z_inc X (x := ka) (lv' := [(3, .int (Int32.ofInt (ka + 1))), (0, .ref (A 179)), (1, .int (Int32.ofInt a)), (2, .int (Int32.ofInt e3009)), (4, .int (Int32.ofInt (iC t (204 + (a : Int).toNat) (ka : Int).toNat))), (5, .int (Int32.ofInt x3043))]) (show cdA 227 278 = some (.iinc 3 1, 3, 0, 0, 0) from rfl) (by decide) (List.Mem.tail _ (List.Mem.tail _ (List.Mem.tail _ (List.Mem.head _)))) (fun _ h => h) h) ?_
                    refine d_lift (fun k ws X h => z_goto X (t := 35) (show cdA 227 281 = some (.goto (-246), 3, 0, 0, 0) from rfl) (by decide) h) ?_
                    refine d_lvs (lv := [(0, .ref (A 179)), (1, .int (Int32.ofInt a)), (2, .int (Int32.ofInt e3009)), (3, .int (Int32.ofInt (ka + 1)))]) (List.forall_mem_cons.mpr ⟨(List.Mem.tail _ (List.Mem.head _)), (List.forall_mem_cons.mpr ⟨(List.Mem.tail _ (List.Mem.tail _ (List.Mem.head _))), (List.forall_mem_cons.mpr ⟨(List.Mem.tail _ (List.Mem.tail _ (List.Mem.tail _ (List.Mem.head _)))), (List.forall_mem_cons.mpr ⟨(List.Mem.head _), (fun q h => absurd h List.not_mem_nil)⟩)⟩)⟩)⟩) ?_
                    exact ih _ a e3009 (ka + 1) Is3042 Fs3042 JNW_s3042 (by first | exact ⟨hs3042.1, hs3042.2.1, hs3042.2.2.1, hs3042.2.2.2.1, oq_54f49eb5 hs3042.2.2.2.2.1, oq_3d4d89a6 hs3042.2.2.2.2.2.2.1⟩ | omega) (by first | exact qk_me hm (by decide) (oq_fa9b5cb9 hs3042.2.2.2.2.2.2.1) | omega) kx
            ·
              refine d_lift (fun k ws X h => z_aload_n X (x := A 179) (show cdA 227 108 = some (.aload_n 0, 1, 0, 0, 0) from rfl) (List.Mem.tail _ (List.Mem.tail _ (List.Mem.tail _ (List.Mem.head _)))) h) ?_
              refine d_liftS (fun k s X h => s_getR X 179 (show cdA 227 109 = some (.getfield 32, 3, 12, 21, 0) from rfl) (by decide) rfl rfl h) ?_
              refine d_lift (fun k ws X h => z_const X (show cdA 227 112 = some (.iconst 2, 1, 0, 0, 0) from rfl) h) ?_
              refine d_lift (fun k ws X h => w_dup2_11 X.1 (ax_d X (show cdA 227 113 = some (.dup2, 1, 0, 0, 0) from rfl)) rfl rfl h) ?_
              refine d_ald 184 (show cdA 227 114 = some (.iaload, 1, 0, 0, 0) from rfl) (by decide) rfl (by decide) (show 2 < 7 by decide) (by decide) (hta3001 161 (by decide) _ (show (2 : Int).toNat < 7 by first | exact oq_62527c24 | omega)) ?_
              have b3045 : ((-2147483648) : Int) ≤ iC t 161 (2 : Int).toNat ∧ iC t 161 (2 : Int).toNat ≤ 2147483647 := I.2 161 _ (show (2 : Int).toNat < 7 by first | exact oq_62527c24 | omega)
              refine d_lift (fun k ws X h => z_aload_n X (x := A 179) (show cdA 227 115 = some (.aload_n 0, 1, 0, 0, 0) from rfl) (List.Mem.tail _ (List.Mem.tail _ (List.Mem.tail _ (List.Mem.head _)))) h) ?_
              refine d_liftS (fun k s X h => s_getR X 179 (show cdA 227 116 = some (.getfield 61, 3, 12, 32, 0) from rfl) (by decide) rfl rfl h) ?_
              refine d_lift (fun k ws X h => z_load_n X (x := a) (show cdA 227 119 = some (.iload_n 1, 1, 0, 0, 0) from rfl) (List.Mem.tail _ (List.Mem.tail _ (List.Mem.tail _ (List.Mem.tail _ (List.Mem.head _))))) h) ?_
              refine d_ald 229 (show cdA 227 120 = some (.iaload, 1, 0, 0, 0) from rfl) (by decide) rfl (by first | exact hi.1 | omega) (show a < 12 by first | exact oq_0ddfcfee hi.2.2.1 | omega) (by decide) (Or.inr ((htn _ (show (a : Int).toNat < 12 by omega) (show (((a : Int).toNat : Nat) : Int) < iI s 90 by omega)).2.1)) ?_
              have b3046 : (0 : Int) ≤ iC t 203 (a).toNat ∧ iC t 203 (a).toNat ≤ 50 := I.2 203 _ (show (a).toNat < 12 by first | exact oq_9c5fa447 hi.2.2.1 | omega)
              have q3047 : iC t 203 (a).toNat = iC s 203 (a).toNat := fm_c F (by decide)
              refine d_lift (fun k ws X h => z_add X (show cdA 227 121 = some (.iadd, 1, 0, 0, 0) from rfl) h) ?_
              refine d_any (fun y3048 hy3048 => ?_)
              refine d_ast 184 (show cdA 227 122 = some (.iastore, 1, 0, 0, 0) from rfl) (by decide) rfl (by decide) (show 2 < 7 by decide) (by decide) (show 161 ∈ _ by decide) (show ((-2147483648) : Int) ≤ y3048 ∧ y3048 ≤ 2147483647 by first | exact ⟨hy3048.1, hy3048.2⟩ | omega) hy3048 ?_
              refine d_mono (T' := TU T 161 7) (fun _ h => h) (fun _ _ h => Or.inr h) ?_
              obtain ⟨s3049, hs3049⟩ : ∃ x0, x0 = uC t 161 (2 : Int).toNat (Int32.ofInt y3048) := ⟨_, rfl⟩
              rw [← hs3049]
              have Is3049 : Bd s3049 := by rw [hs3049]; exact bd_C I (show ((-2147483648) : Int) ≤ y3048 ∧ y3048 ≤ 2147483647 by first | exact ⟨hy3048.1, hy3048.2⟩ | omega) hy3048
              have Fs3049 := fm_C (i := (2 : Int).toNat) (x := Int32.ofInt y3048) F (show 161 ∈ _ by decide)
              rw [← hs3049] at Fs3049
              have fs3049 : Fm [] [161] t s3049 := by rw [hs3049]; exact fm_C (fm_rf _ _ _) (show 161 ∈ _ by decide)
              have JNW_s3049 : NW s3049 := NW_fm fs3049 (by decide) jjNW
              refine d_lift (fun k ws X h => z_load X (x := (iC t 230 ((iC t (204 + (a : Int).toNat) ((ka - 1) : Int).toNat)).toNat)) (show cdA 227 123 = some (.iload 5, 2, 0, 0, 0) from rfl) (List.Mem.head _) h) ?_
              refine d_br (bo_eq _ _) bx_eq (fun k ws X h1 h2 => z_if_eq X (t := 172) (show cdA 227 125 = some (.ifCond .eq 47, 3, 0, 0, 0) from rfl) (by decide) (rng_to _) h1 h2) (fun g3050 => ?_) (fun g3050 => ?_)
              ·
                refine d_lift (fun k ws X h => z_load_n X (x := a) (show cdA 227 172 = some (.iload_n 1, 1, 0, 0, 0) from rfl) (List.Mem.tail _ (List.Mem.tail _ (List.Mem.tail _ (List.Mem.tail _ (List.Mem.head _))))) h) ?_
                refine d_lift (fun k ws X h => z_const X (show cdA 227 173 = some (.iconst 1, 1, 0, 0, 0) from rfl) h) ?_
                refine d_lift (fun k ws X h => z_add X (show cdA 227 174 = some (.iadd, 1, 0, 0, 0) from rfl) h) ?_
                refine d_lift (fun k ws X h => z_store X (lv' := [(5, .int (Int32.ofInt (a + 1))), (2, .int (Int32.ofInt e3009)), (4, .int (Int32.ofInt (iC t (204 + (a : Int).toNat) (ka : Int).toNat))), (0, .ref (A 179)), (1, .int (Int32.ofInt a)), (3, .int (Int32.ofInt ka))]) (show cdA 227 175 = some (.istore 5, 2, 0, 0, 0) from rfl) (by decide) (fun _ h => h) h) ?_
                refine d_lvs (lv := [(0, .ref (A 179)), (1, .int (Int32.ofInt a)), (2, .int (Int32.ofInt e3009)), (3, .int (Int32.ofInt ka)), (4, .int (Int32.ofInt (iC t (204 + (a : Int).toNat) (ka : Int).toNat))), (5, .int (Int32.ofInt (a + 1)))]) (List.forall_mem_cons.mpr ⟨(List.Mem.tail _ (List.Mem.tail _ (List.Mem.tail _ (List.Mem.head _)))), (List.forall_mem_cons.mpr ⟨(List.Mem.tail _ (List.Mem.tail _ (List.Mem.tail _ (List.Mem.tail _ (List.Mem.head _))))), (List.forall_mem_cons.mpr ⟨(List.Mem.tail _ (List.Mem.head _)), (List.forall_mem_cons.mpr ⟨(List.Mem.tail _ (List.Mem.tail _ (List.Mem.tail _ (List.Mem.tail _ (List.Mem.tail _ (List.Mem.head _)))))), (List.forall_mem_cons.mpr ⟨(List.Mem.tail _ (List.Mem.tail _ (List.Mem.head _))), (List.forall_mem_cons.mpr ⟨(List.Mem.head _), (fun q h => absurd h List.not_mem_nil)⟩)⟩)⟩)⟩)⟩)⟩) ?_
                refine L177 ((12 - (a + 1) : Int).toNat + 1) s3049 a e3009 ka (iC t (204 + (a : Int).toNat) (ka : Int).toNat) (a + 1) Is3049 Fs3049 JNW_s3049 (by first | exact ⟨hi.1, hi.2.1, hi.2.2.1, oq_31e518ae re3009.2 re3009.1, hi.2.2.2.2.1, oq_095218f7 q3004 g3006, oq_10212474 g3006 b3002.2, b3007.1, b3007.2, oq_b15b052d hi.1, oq_51d1204d hi.2.2.1⟩ | omega) (Nat.lt_succ_self _) ?_
                intro s3051 x3052 Is3051 Fs3051 JNW_s3051 hs3051
                have hta3053 : ∀ a ∈ ([161, 230] : List Nat), ∀ j, j < (bA a).2.2 → (TU T 161 7).2 a j := hta_g hta (by decide)
                refine d_lift (fun k ws X h => z_inc X (x := ka) (lv' := [(3, .int (Int32.ofInt (ka + 1))), (0, .ref (A 179)), (1, .int (Int32.ofInt a)), (2, .int (Int32.ofInt e3009)), (4, .int (Int32.ofInt (iC t (204 + (a : Int).toNat) (ka : Int).toNat))), (5, .int (Int32.ofInt x3052))]) (show cdA 227 278 = some (.iinc 3 1, 3, 0, 0, 0) from rfl) (by decide) (List.Mem.tail _ (List.Mem.tail _ (List.Mem.tail _ (List.Mem.head _)))) (fun _ h => h) h) ?_
                refine d_lift (fun k ws X h => z_goto X (t := 35) (show cdA 227 281 = some (.goto (-246), 3, 0, 0, 0) from rfl) (by decide) h) ?_
                refine d_lvs (lv := [(0, .ref (A 179)), (1, .int (Int32.ofInt a)), (2, .int (Int32.ofInt e3009)), (3, .int (Int32.ofInt (ka + 1)))]) (List.forall_mem_cons.mpr ⟨(List.Mem.tail _ (List.Mem.head _)), (List.forall_mem_cons.mpr ⟨(List.Mem.tail _ (List.Mem.tail _ (List.Mem.head _))), (List.forall_mem_cons.mpr ⟨(List.Mem.tail _ (List.Mem.tail _ (List.Mem.tail _ (List.Mem.head _)))), (List.forall_mem_cons.mpr ⟨(List.Mem.head _), (fun q h => absurd h List.not_mem_nil)⟩)⟩)⟩)⟩) ?_
                exact ih _ a e3009 (ka + 1) Is3051 Fs3051 JNW_s3051 (by first | exact ⟨hs3051.1, hs3051.2.1, hs3051.2.2.1, hs3051.2.2.2.1, oq_54f49eb5 hs3051.2.2.2.2.1, oq_3d4d89a6 hs3051.2.2.2.2.2.2.1⟩ | omega) (by first | exact qk_me hm (by decide) (oq_fa9b5cb9 hs3051.2.2.2.2.2.2.1) | omega) kx
              ·
                refine d_lift (fun k ws X h => z_aload_n X (x := A 179) (show cdA 227 128 = some (.aload_n 0, 1, 0, 0, 0) from rfl) (List.Mem.tail _ (List.Mem.tail _ (List.Mem.tail _ (List.Mem.head _)))) h) ?_
                refine d_liftS (fun k s X h => s_getR X 179 (show cdA 227 129 = some (.getfield 76, 3, 12, 37, 0) from rfl) (by decide) rfl rfl h) ?_
                refine d_lift (fun k ws X h => z_load X (x := (iC t (204 + (a : Int).toNat) (ka : Int).toNat)) (show cdA 227 132 = some (.iload 4, 2, 0, 0, 0) from rfl) (List.Mem.tail _ (List.Mem.tail _ (List.Mem.head _))) h) ?_
                refine d_zald 258 (show cdA 227 134 = some (.baload, 1, 0, 0, 0) from rfl) (by decide) rfl (by first | exact b3007.1 | omega) (show (iC t (204 + (a : Int).toNat) (ka : Int).toNat) < 128 by first | exact oq_31b2bf10 b3007.2 | omega) (by decide) (hta3001 230 (by decide) _ (show ((iC t (204 + (a : Int).toNat) (ka : Int).toNat)).toNat < 128 by first | exact oq_c7f4e9c1 b3007.2 | omega)) ?_
                have b3054 : (0 : Int) ≤ iC s3049 230 ((iC t (204 + (a : Int).toNat) (ka : Int).toNat)).toNat ∧ iC s3049 230 ((iC t (204 + (a : Int).toNat) (ka : Int).toNat)).toNat ≤ 1 := Is3049.2 230 _ (show ((iC t (204 + (a : Int).toNat) (ka : Int).toNat)).toNat < 128 by first | exact oq_c7f4e9c1 b3007.2 | omega)
                have q3055 : iC s3049 230 ((iC t (204 + (a : Int).toNat) (ka : Int).toNat)).toNat = iC s 230 ((iC t (204 + (a : Int).toNat) (ka : Int).toNat)).toNat := fm_c Fs3049 (by decide)
                refine d_br (bo_eq _ _) bx_eq (fun k ws X h1 h2 => z_if_eq X (t := 172) (show cdA 227 135 = some (.ifCond .eq 37, 3, 0, 0, 0) from rfl) (by decide) (rng_to _) h1 h2) (fun g3056 => ?_) (fun g3056 => ?_)
                ·
                  refine d_lift (fun k ws X h => z_load_n X (x := a) (show cdA 227 172 = some (.iload_n 1, 1, 0, 0, 0) from rfl) (List.Mem.tail _ (List.Mem.tail _ (List.Mem.tail _ (List.Mem.tail _ (List.Mem.head _))))) h) ?_
                  refine d_lift (fun k ws X h => z_const X (show cdA 227 173 = some (.iconst 1, 1, 0, 0, 0) from rfl) h) ?_
                  refine d_lift (fun k ws X h => z_add X (show cdA 227 174 = some (.iadd, 1, 0, 0, 0) from rfl) h) ?_
                  refine d_lift (fun k ws X h => z_store X (lv' := [(5, .int (Int32.ofInt (a + 1))), (2, .int (Int32.ofInt e3009)), (4, .int (Int32.ofInt (iC t (204 + (a : Int).toNat) (ka : Int).toNat))), (0, .ref (A 179)), (1, .int (Int32.ofInt a)), (3, .int (Int32.ofInt ka))]) (show cdA 227 175 = some (.istore 5, 2, 0, 0, 0) from rfl) (by decide) (fun _ h => h) h) ?_
                  refine d_lvs (lv := [(0, .ref (A 179)), (1, .int (Int32.ofInt a)), (2, .int (Int32.ofInt e3009)), (3, .int (Int32.ofInt ka)), (4, .int (Int32.ofInt (iC t (204 + (a : Int).toNat) (ka : Int).toNat))), (5, .int (Int32.ofInt (a + 1)))]) (List.forall_mem_cons.mpr ⟨(List.Mem.tail _ (List.Mem.tail _ (List.Mem.tail _ (List.Mem.head _)))), (List.forall_mem_cons.mpr ⟨(List.Mem.tail _ (List.Mem.tail _ (List.Mem.tail _ (List.Mem.tail _ (List.Mem.head _))))), (List.forall_mem_cons.mpr ⟨(List.Mem.tail _ (List.Mem.head _)), (List.forall_mem_cons.mpr ⟨(List.Mem.tail _ (List.Mem.tail _ (List.Mem.tail _ (List.Mem.tail _ (List.Mem.tail _ (List.Mem.head _)))))), (List.forall_mem_cons.mpr ⟨(List.Mem.tail _ (List.Mem.tail _ (List.Mem.head _))), (List.forall_mem_cons.mpr ⟨(List.Mem.head _), (fun q h => absurd h List.not_mem_nil)⟩)⟩)⟩)⟩)⟩)⟩) ?_
                  refine L177 ((12 - (a + 1) : Int).toNat + 1) s3049 a e3009 ka (iC t (204 + (a : Int).toNat) (ka : Int).toNat) (a + 1) Is3049 Fs3049 JNW_s3049 (by first | exact ⟨hi.1, hi.2.1, hi.2.2.1, oq_31e518ae re3009.2 re3009.1, hi.2.2.2.2.1, oq_095218f7 q3004 g3006, oq_10212474 g3006 b3002.2, b3007.1, b3007.2, oq_b15b052d hi.1, oq_51d1204d hi.2.2.1⟩ | omega) (Nat.lt_succ_self _) ?_
                  intro s3057 x3058 Is3057 Fs3057 JNW_s3057 hs3057
                  have hta3059 : ∀ a ∈ ([161, 230] : List Nat), ∀ j, j < (bA a).2.2 → (TU T 161 7).2 a j := hta_g hta (by decide)
                  refine d_lift (fun k ws X h => z_inc X (x := ka) (lv' := [(3, .int (Int32.ofInt (ka + 1))), (0, .ref (A 179)), (1, .int (Int32.ofInt a)), (2, .int (Int32.ofInt e3009)), (4, .int (Int32.ofInt (iC t (204 + (a : Int).toNat) (ka : Int).toNat))), (5, .int (Int32.ofInt x3058))]) (show cdA 227 278 = some (.iinc 3 1, 3, 0, 0, 0) from rfl) (by decide) (List.Mem.tail _ (List.Mem.tail _ (List.Mem.tail _ (List.Mem.head _)))) (fun _ h => h) h) ?_
                  refine d_lift (fun k ws X h => z_goto X (t := 35) (show cdA 227 281 = some (.goto (-246), 3, 0, 0, 0) from rfl) (by decide) h) ?_
                  refine d_lvs (lv := [(0, .ref (A 179)), (1, .int (Int32.ofInt a)), (2, .int (Int32.ofInt e3009)), (3, .int (Int32.ofInt (ka + 1)))]) (List.forall_mem_cons.mpr ⟨(List.Mem.tail _ (List.Mem.head _)), (List.forall_mem_cons.mpr ⟨(List.Mem.tail _ (List.Mem.tail _ (List.Mem.head _))), (List.forall_mem_cons.mpr ⟨(List.Mem.tail _ (List.Mem.tail _ (List.Mem.tail _ (List.Mem.head _)))), (List.forall_mem_cons.mpr ⟨(List.Mem.head _), (fun q h => absurd h List.not_mem_nil)⟩)⟩)⟩)⟩) ?_
                  exact ih _ a e3009 (ka + 1) Is3057 Fs3057 JNW_s3057 (by first | exact ⟨hs3057.1, hs3057.2.1, hs3057.2.2.1, hs3057.2.2.2.1, oq_54f49eb5 hs3057.2.2.2.2.1, oq_3d4d89a6 hs3057.2.2.2.2.2.2.1⟩ | omega) (by first | exact qk_me hm (by decide) (oq_fa9b5cb9 hs3057.2.2.2.2.2.2.1) | omega) kx
                ·
                  refine d_lift (fun k ws X h => z_aload_n X (x := A 179) (show cdA 227 138 = some (.aload_n 0, 1, 0, 0, 0) from rfl) (List.Mem.tail _ (List.Mem.tail _ (List.Mem.tail _ (List.Mem.head _)))) h) ?_
                  refine d_liftS (fun k s X h => s_getR X 179 (show cdA 227 139 = some (.getfield 64, 3, 12, 33, 0) from rfl) (by decide) rfl rfl h) ?_
                  refine d_lift (fun k ws X h => z_load_n X (x := a) (show cdA 227 142 = some (.iload_n 1, 1, 0, 0, 0) from rfl) (List.Mem.tail _ (List.Mem.tail _ (List.Mem.tail _ (List.Mem.tail _ (List.Mem.head _))))) h) ?_
                  refine d_liftS (fun k s X h => z_aald X rw_230 (show cdA 227 143 = some (.aaload, 1, 0, 0, 0) from rfl) (by first | exact hi.1 | omega) (show a < 12 by first | exact oq_0ddfcfee hi.2.2.1 | omega) (by decide) h) ?_
                  refine d_lift (fun k ws X h => z_load_n X (x := ka) (show cdA 227 144 = some (.iload_n 3, 1, 0, 0, 0) from rfl) (List.Mem.tail _ (List.Mem.tail _ (List.Mem.tail _ (List.Mem.tail _ (List.Mem.tail _ (List.Mem.head _)))))) h) ?_
                  refine d_lift (fun k ws X h => z_const X (show cdA 227 145 = some (.iconst 1, 1, 0, 0, 0) from rfl) h) ?_
                  refine d_lift (fun k ws X h => z_sub X (show cdA 227 146 = some (.isub, 1, 0, 0, 0) from rfl) h) ?_
                  refine d_ald2 rw_230 (show cdA 227 147 = some (.iaload, 1, 0, 0, 0) from rfl) (show (a : Int).toNat < 12 by first | exact oq_9c5fa447 hi.2.2.1 | omega) (by first | exact oq_a4f22177 g3010 | omega) (show (ka - 1) < 24 by first | exact oq_19cb6f5b hi.2.2.2.2.2 | omega) (by decide) (Or.inr ((htn _ (show (a : Int).toNat < 12 by omega) (show (((a : Int).toNat : Nat) : Int) < iI s 90 by omega)).2.2.2 _ (show ((((ka - 1) : Int).toNat : Nat) : Int) < iC s 202 (a : Int).toNat by omega))) ?_
                  have b3060 : (0 : Int) ≤ (iC s3049 (204 + (a : Int).toNat) ((ka - 1) : Int).toNat) ∧ (iC s3049 (204 + (a : Int).toNat) ((ka - 1) : Int).toNat) ≤ 127 := rw_bd rw_230 Is3049 (show (a : Int).toNat < 12 by first | exact oq_9c5fa447 hi.2.2.1 | omega) (show ((ka - 1) : Int).toNat < 24 by first | exact oq_f976b25c hi.2.2.2.2.2 | omega)
                  refine d_lift (fun k ws X h => z_load X (x := (iC t (204 + (a : Int).toNat) (ka : Int).toNat)) (show cdA 227 148 = some (.iload 4, 2, 0, 0, 0) from rfl) (List.Mem.tail _ (List.Mem.tail _ (List.Mem.head _))) h) ?_
                  refine d_callT (As := [.int (Int32.ofInt (iC s3049 (204 + (a : Int).toNat) ((ka - 1) : Int).toNat)), .int (Int32.ofInt (iC t (204 + (a : Int).toNat) (ka : Int).toNat))]) (st := []) (show cdA 227 150 = some (.invokestatic 312, 3, 225, 1, 0) from rfl) rfl (d_stepOf (T := TU T 161 7) G Is3049 (by first | exact ⟨b3060.1, b3060.2⟩ | omega) (by first | exact ⟨b3007.1, b3007.2⟩ | omega) (fun q h => hti q ((by decide : ∀ q ∈ ([] : List Nat), q ∈ ([90, 89] : List Nat)) q h)) (fun a h => hta3001 a ((by decide : ∀ q ∈ ([] : List Nat), q ∈ ([161, 230] : List Nat)) a h))) ⟨rfl, rfl⟩ ⟨(show 6 + 1 ≤ 8 from oq_42eed11c), (show 8 + (mNL (miB 225) + 11) + 100 ≤ 143 from oq_e99eeac0)⟩ (Nat.le_of_ble_eq_true rfl) (by decide) (by decide) (fun ee s3061 hq => ?_) (fun vv s3061 hq => ?_)
                  · obtain ⟨Is3061, Fs3061, e3062, hv, hrs3061, hps3061⟩ := hq; cases hv
                  obtain ⟨Is3061, Fs3061, e3062, hv, hrs3061, hps3061⟩ := hq
                  cases hv
                  have Gs3061 := fm_ts Fs3049 Fs3061 (by decide) (by decide)
                  have JNW_s3061 : NW s3061 := NW_fm Fs3061 (by decide) JNW_s3049
                  show DS l s0 D A dT 227 (rmN 227) [] [161] (TU T 161 7) Q (TU T 161 7) 153 [(5, .int (Int32.ofInt (iC t 230 ((iC t (204 + (a : Int).toNat) ((ka - 1) : Int).toNat)).toNat))), (2, .int (Int32.ofInt e3009)), (4, .int (Int32.ofInt (iC t (204 + (a : Int).toNat) (ka : Int).toNat))), (0, .ref (A 179)), (1, .int (Int32.ofInt a)), (3, .int (Int32.ofInt ka))] [.int (Int32.ofInt e3062)] s3061
                  refine d_lift (fun k ws X h => z_const X (show cdA 227 153 = some (.iconst 3, 1, 0, 0, 0) from rfl) h) ?_
                  refine d_br (bo_le _ _) bx_le (fun k ws X h1 h2 => z_icmp_le X (t := 172) (show cdA 227 154 = some (.if_icmp .le 18, 3, 5, 0, 0) from rfl) (by decide) hrs3061 (by decide) h1 h2) (fun g3063 => ?_) (fun g3063 => ?_)
                  ·
                    refine d_lift (fun k ws X h => z_load_n X (x := a) (show cdA 227 172 = some (.iload_n 1, 1, 0, 0, 0) from rfl) (List.Mem.tail _ (List.Mem.tail _ (List.Mem.tail _ (List.Mem.tail _ (List.Mem.head _))))) h) ?_
                    refine d_lift (fun k ws X h => z_const X (show cdA 227 173 = some (.iconst 1, 1, 0, 0, 0) from rfl) h) ?_
                    refine d_lift (fun k ws X h => z_add X (show cdA 227 174 = some (.iadd, 1, 0, 0, 0) from rfl) h) ?_
                    refine d_lift (fun k ws X h => z_store X (lv' := [(5, .int (Int32.ofInt (a + 1))), (2, .int (Int32.ofInt e3009)), (4, .int (Int32.ofInt (iC t (204 + (a : Int).toNat) (ka : Int).toNat))), (0, .ref (A 179)), (1, .int (Int32.ofInt a)), (3, .int (Int32.ofInt ka))]) (show cdA 227 175 = some (.istore 5, 2, 0, 0, 0) from rfl) (by decide) (fun _ h => h) h) ?_
                    refine d_lvs (lv := [(0, .ref (A 179)), (1, .int (Int32.ofInt a)), (2, .int (Int32.ofInt e3009)), (3, .int (Int32.ofInt ka)), (4, .int (Int32.ofInt (iC t (204 + (a : Int).toNat) (ka : Int).toNat))), (5, .int (Int32.ofInt (a + 1)))]) (List.forall_mem_cons.mpr ⟨(List.Mem.tail _ (List.Mem.tail _ (List.Mem.tail _ (List.Mem.head _)))), (List.forall_mem_cons.mpr ⟨(List.Mem.tail _ (List.Mem.tail _ (List.Mem.tail _ (List.Mem.tail _ (List.Mem.head _))))), (List.forall_mem_cons.mpr ⟨(List.Mem.tail _ (List.Mem.head _)), (List.forall_mem_cons.mpr ⟨(List.Mem.tail _ (List.Mem.tail _ (List.Mem.tail _ (List.Mem.tail _ (List.Mem.tail _ (List.Mem.head _)))))), (List.forall_mem_cons.mpr ⟨(List.Mem.tail _ (List.Mem.tail _ (List.Mem.head _))), (List.forall_mem_cons.mpr ⟨(List.Mem.head _), (fun q h => absurd h List.not_mem_nil)⟩)⟩)⟩)⟩)⟩)⟩) ?_
                    refine L177 ((12 - (a + 1) : Int).toNat + 1) s3061 a e3009 ka (iC t (204 + (a : Int).toNat) (ka : Int).toNat) (a + 1) Is3061 Gs3061 JNW_s3061 (by first | exact ⟨hi.1, hi.2.1, hi.2.2.1, oq_f288f23a g3056 q3055 b3054.1 g3050 g3019 q3018 b3017.2 b3015.2 b3015.1, hi.2.2.2.2.1, oq_095218f7 q3004 g3006, oq_10212474 g3006 b3002.2, b3007.1, b3007.2, oq_b15b052d hi.1, oq_51d1204d hi.2.2.1⟩ | omega) (Nat.lt_succ_self _) ?_
                    intro s3064 x3065 Is3064 Fs3064 JNW_s3064 hs3064
                    have hta3066 : ∀ a ∈ ([161, 230] : List Nat), ∀ j, j < (bA a).2.2 → (TU T 161 7).2 a j := hta_g hta (by decide)
                    refine d_lift (fun k ws X h => z_inc X (x := ka) (lv' := [(3, .int (Int32.ofInt (ka + 1))), (0, .ref (A 179)), (1, .int (Int32.ofInt a)), (2, .int (Int32.ofInt e3009)), (4, .int (Int32.ofInt (iC t (204 + (a : Int).toNat) (ka : Int).toNat))), (5, .int (Int32.ofInt x3065))]) (show cdA 227 278 = some (.iinc 3 1, 3, 0, 0, 0) from rfl) (by decide) (List.Mem.tail _ (List.Mem.tail _ (List.Mem.tail _ (List.Mem.head _)))) (fun _ h => h) h) ?_
                    refine d_lift (fun k ws X h => z_goto X (t := 35) (show cdA 227 281 = some (.goto (-246), 3, 0, 0, 0) from rfl) (by decide) h) ?_
                    refine d_lvs (lv := [(0, .ref (A 179)), (1, .int (Int32.ofInt a)), (2, .int (Int32.ofInt e3009)), (3, .int (Int32.ofInt (ka + 1)))]) (List.forall_mem_cons.mpr ⟨(List.Mem.tail _ (List.Mem.head _)), (List.forall_mem_cons.mpr ⟨(List.Mem.tail _ (List.Mem.tail _ (List.Mem.head _))), (List.forall_mem_cons.mpr ⟨(List.Mem.tail _ (List.Mem.tail _ (List.Mem.tail _ (List.Mem.head _)))), (List.forall_mem_cons.mpr ⟨(List.Mem.head _), (fun q h => absurd h List.not_mem_nil)⟩)⟩)⟩)⟩) ?_
                    exact ih _ a e3009 (ka + 1) Is3064 Fs3064 JNW_s3064 (by first | exact ⟨hs3064.1, hs3064.2.1, hs3064.2.2.1, hs3064.2.2.2.1, oq_54f49eb5 hs3064.2.2.2.2.1, oq_3d4d89a6 hs3064.2.2.2.2.2.2.1⟩ | omega) (by first | exact qk_me hm (by decide) (oq_fa9b5cb9 hs3064.2.2.2.2.2.2.1) | omega) kx
                  ·
                    refine d_lift (fun k ws X h => z_aload_n X (x := A 179) (show cdA 227 157 = some (.aload_n 0, 1, 0, 0, 0) from rfl) (List.Mem.tail _ (List.Mem.tail _ (List.Mem.tail _ (List.Mem.head _)))) h) ?_
                    refine d_liftS (fun k s X h => s_getR X 179 (show cdA 227 158 = some (.getfield 32, 3, 12, 21, 0) from rfl) (by decide) rfl rfl h) ?_
                    refine d_lift (fun k ws X h => z_const X (show cdA 227 161 = some (.iconst 3, 1, 0, 0, 0) from rfl) h) ?_
                    refine d_lift (fun k ws X h => w_dup2_11 X.1 (ax_d X (show cdA 227 162 = some (.dup2, 1, 0, 0, 0) from rfl)) rfl rfl h) ?_
                    refine d_ald 184 (show cdA 227 163 = some (.iaload, 1, 0, 0, 0) from rfl) (by decide) rfl (by decide) (show 3 < 7 by decide) (by decide) (hta3001 161 (by decide) _ (show (3 : Int).toNat < 7 by first | exact oq_bea6b7ec | omega)) ?_
                    have b3067 : ((-2147483648) : Int) ≤ iC s3061 161 (3 : Int).toNat ∧ iC s3061 161 (3 : Int).toNat ≤ 2147483647 := Is3061.2 161 _ (show (3 : Int).toNat < 7 by first | exact oq_bea6b7ec | omega)
                    refine d_lift (fun k ws X h => z_aload_n X (x := A 179) (show cdA 227 164 = some (.aload_n 0, 1, 0, 0, 0) from rfl) (List.Mem.tail _ (List.Mem.tail _ (List.Mem.tail _ (List.Mem.head _)))) h) ?_
                    refine d_liftS (fun k s X h => s_getR X 179 (show cdA 227 165 = some (.getfield 61, 3, 12, 32, 0) from rfl) (by decide) rfl rfl h) ?_
                    refine d_lift (fun k ws X h => z_load_n X (x := a) (show cdA 227 168 = some (.iload_n 1, 1, 0, 0, 0) from rfl) (List.Mem.tail _ (List.Mem.tail _ (List.Mem.tail _ (List.Mem.tail _ (List.Mem.head _))))) h) ?_
                    refine d_ald 229 (show cdA 227 169 = some (.iaload, 1, 0, 0, 0) from rfl) (by decide) rfl (by first | exact hi.1 | omega) (show a < 12 by first | exact oq_0ddfcfee hi.2.2.1 | omega) (by decide) (Or.inr ((htn _ (show (a : Int).toNat < 12 by omega) (show (((a : Int).toNat : Nat) : Int) < iI s 90 by omega)).2.1)) ?_
                    have b3068 : (0 : Int) ≤ iC s3061 203 (a).toNat ∧ iC s3061 203 (a).toNat ≤ 50 := Is3061.2 203 _ (show (a).toNat < 12 by first | exact oq_9c5fa447 hi.2.2.1 | omega)
                    have q3069 : iC s3061 203 (a).toNat = iC s 203 (a).toNat := fm_c Gs3061 (by decide)
                    refine d_lift (fun k ws X h => z_add X (show cdA 227 170 = some (.iadd, 1, 0, 0, 0) from rfl) h) ?_
                    refine d_any (fun y3070 hy3070 => ?_)
                    refine d_ast 184 (show cdA 227 171 = some (.iastore, 1, 0, 0, 0) from rfl) (by decide) rfl (by decide) (show 3 < 7 by decide) (by decide) (show 161 ∈ _ by decide) (show ((-2147483648) : Int) ≤ y3070 ∧ y3070 ≤ 2147483647 by first | exact ⟨hy3070.1, hy3070.2⟩ | omega) hy3070 ?_
                    refine d_mono (T' := TU T 161 7) (fun _ h => h) (fun _ _ h => Or.inr h) ?_
                    obtain ⟨s3071, hs3071⟩ : ∃ x0, x0 = uC s3061 161 (3 : Int).toNat (Int32.ofInt y3070) := ⟨_, rfl⟩
                    rw [← hs3071]
                    have Is3071 : Bd s3071 := by rw [hs3071]; exact bd_C Is3061 (show ((-2147483648) : Int) ≤ y3070 ∧ y3070 ≤ 2147483647 by first | exact ⟨hy3070.1, hy3070.2⟩ | omega) hy3070
                    have Fs3071 := fm_C (i := (3 : Int).toNat) (x := Int32.ofInt y3070) Gs3061 (show 161 ∈ _ by decide)
                    rw [← hs3071] at Fs3071
                    have fs3071 : Fm [] [161] s3061 s3071 := by rw [hs3071]; exact fm_C (fm_rf _ _ _) (show 161 ∈ _ by decide)
                    have JNW_s3071 : NW s3071 := NW_fm fs3071 (by decide) JNW_s3061
                    refine d_lift (fun k ws X h => z_load_n X (x := a) (show cdA 227 172 = some (.iload_n 1, 1, 0, 0, 0) from rfl) (List.Mem.tail _ (List.Mem.tail _ (List.Mem.tail _ (List.Mem.tail _ (List.Mem.head _))))) h) ?_
                    refine d_lift (fun k ws X h => z_const X (show cdA 227 173 = some (.iconst 1, 1, 0, 0, 0) from rfl) h) ?_
                    refine d_lift (fun k ws X h => z_add X (show cdA 227 174 = some (.iadd, 1, 0, 0, 0) from rfl) h) ?_
                    refine d_lift (fun k ws X h => z_store X (lv' := [(5, .int (Int32.ofInt (a + 1))), (2, .int (Int32.ofInt e3009)), (4, .int (Int32.ofInt (iC t (204 + (a : Int).toNat) (ka : Int).toNat))), (0, .ref (A 179)), (1, .int (Int32.ofInt a)), (3, .int (Int32.ofInt ka))]) (show cdA 227 175 = some (.istore 5, 2, 0, 0, 0) from rfl) (by decide) (fun _ h => h) h) ?_
                    refine d_lvs (lv := [(0, .ref (A 179)), (1, .int (Int32.ofInt a)), (2, .int (Int32.ofInt e3009)), (3, .int (Int32.ofInt ka)), (4, .int (Int32.ofInt (iC t (204 + (a : Int).toNat) (ka : Int).toNat))), (5, .int (Int32.ofInt (a + 1)))]) (List.forall_mem_cons.mpr ⟨(List.Mem.tail _ (List.Mem.tail _ (List.Mem.tail _ (List.Mem.head _)))), (List.forall_mem_cons.mpr ⟨(List.Mem.tail _ (List.Mem.tail _ (List.Mem.tail _ (List.Mem.tail _ (List.Mem.head _))))), (List.forall_mem_cons.mpr ⟨(List.Mem.tail _ (List.Mem.head _)), (List.forall_mem_cons.mpr ⟨(List.Mem.tail _ (List.Mem.tail _ (List.Mem.tail _ (List.Mem.tail _ (List.Mem.tail _ (List.Mem.head _)))))), (List.forall_mem_cons.mpr ⟨(List.Mem.tail _ (List.Mem.tail _ (List.Mem.head _))), (List.forall_mem_cons.mpr ⟨(List.Mem.head _), (fun q h => absurd h List.not_mem_nil)⟩)⟩)⟩)⟩)⟩)⟩) ?_
                    refine L177 ((12 - (a + 1) : Int).toNat + 1) s3071 a e3009 ka (iC t (204 + (a : Int).toNat) (ka : Int).toNat) (a + 1) Is3071 Fs3071 JNW_s3071 (by first | exact ⟨hi.1, hi.2.1, hi.2.2.1, oq_f288f23a g3056 q3055 b3054.1 g3050 g3019 q3018 b3017.2 b3015.2 b3015.1, hi.2.2.2.2.1, oq_095218f7 q3004 g3006, oq_10212474 g3006 b3002.2, b3007.1, b3007.2, oq_b15b052d hi.1, oq_51d1204d hi.2.2.1⟩ | omega) (Nat.lt_succ_self _) ?_
                    intro s3072 x3073 Is3072 Fs3072 JNW_s3072 hs3072
                    have hta3074 : ∀ a ∈ ([161, 230] : List Nat), ∀ j, j < (bA a).2.2 → (TU T 161 7).2 a j := hta_g hta (by decide)
                    refine d_lift (fun k ws X h => z_inc X (x := ka) (lv' := [(3, .int (Int32.ofInt (ka + 1))), (0, .ref (A 179)), (1, .int (Int32.ofInt a)), (2, .int (Int32.ofInt e3009)), (4, .int (Int32.ofInt (iC t (204 + (a : Int).toNat) (ka : Int).toNat))), (5, .int (Int32.ofInt x3073))]) (show cdA 227 278 = some (.iinc 3 1, 3, 0, 0, 0) from rfl) (by decide) (List.Mem.tail _ (List.Mem.tail _ (List.Mem.tail _ (List.Mem.head _)))) (fun _ h => h) h) ?_
                    refine d_lift (fun k ws X h => z_goto X (t := 35) (show cdA 227 281 = some (.goto (-246), 3, 0, 0, 0) from rfl) (by decide) h) ?_
                    refine d_lvs (lv := [(0, .ref (A 179)), (1, .int (Int32.ofInt a)), (2, .int (Int32.ofInt e3009)), (3, .int (Int32.ofInt (ka + 1)))]) (List.forall_mem_cons.mpr ⟨(List.Mem.tail _ (List.Mem.head _)), (List.forall_mem_cons.mpr ⟨(List.Mem.tail _ (List.Mem.tail _ (List.Mem.head _))), (List.forall_mem_cons.mpr ⟨(List.Mem.tail _ (List.Mem.tail _ (List.Mem.tail _ (List.Mem.head _)))), (List.forall_mem_cons.mpr ⟨(List.Mem.head _), (fun q h => absurd h List.not_mem_nil)⟩)⟩)⟩)⟩) ?_
                    exact ih _ a e3009 (ka + 1) Is3072 Fs3072 JNW_s3072 (by first | exact ⟨hs3072.1, hs3072.2.1, hs3072.2.2.1, hs3072.2.2.2.1, oq_54f49eb5 hs3072.2.2.2.2.1, oq_3d4d89a6 hs3072.2.2.2.2.2.2.1⟩ | omega) (by first | exact qk_me hm (by decide) (oq_fa9b5cb9 hs3072.2.2.2.2.2.2.1) | omega) kx
        refine d_br (bo_ne _ _) bx_ne (fun k ws X h1 h2 => z_if_ne X (t := 69) (show cdA 227 56 = some (.ifCond .ne 13, 3, 1, 0, 0) from rfl) (by decide) ⟨by first | exact oq_bde653e9 hi.2.2.2.1 | omega, by first | exact oq_4ad2cb8b hi.2.2.2.1 | omega⟩ h1 h2) (fun g3075 => ?_) (fun g3075 => ?_)
        ·
          refine d_lift (fun k ws X h => z_const X (show cdA 227 69 = some (.iconst 1, 1, 0, 0, 0) from rfl) h) ?_
          refine d_lift (fun k ws X h => z_goto X (t := 74) (show cdA 227 70 = some (.goto 4, 3, 0, 0, 0) from rfl) (by decide) h) ?_
          exact N3008 _ (Or.inl ⟨g3075, rfl⟩)
        ·
          refine d_lift (fun k ws X h => z_aload_n X (x := A 179) (show cdA 227 59 = some (.aload_n 0, 1, 0, 0, 0) from rfl) (List.Mem.tail _ (List.Mem.head _)) h) ?_
          refine d_liftS (fun k s X h => s_getR X 179 (show cdA 227 60 = some (.getfield 76, 3, 12, 37, 0) from rfl) (by decide) rfl rfl h) ?_
          refine d_lift (fun k ws X h => z_load X (x := (iC t (204 + (a : Int).toNat) (ka : Int).toNat)) (show cdA 227 63 = some (.iload 4, 2, 0, 0, 0) from rfl) (List.Mem.head _) h) ?_
          refine d_zald 258 (show cdA 227 65 = some (.baload, 1, 0, 0, 0) from rfl) (by decide) rfl (by first | exact b3007.1 | omega) (show (iC t (204 + (a : Int).toNat) (ka : Int).toNat) < 128 by first | exact oq_31b2bf10 b3007.2 | omega) (by decide) (hta3001 230 (by decide) _ (show ((iC t (204 + (a : Int).toNat) (ka : Int).toNat)).toNat < 128 by first | exact oq_c7f4e9c1 b3007.2 | omega)) ?_
          have b3076 : (0 : Int) ≤ iC t 230 ((iC t (204 + (a : Int).toNat) (ka : Int).toNat)).toNat ∧ iC t 230 ((iC t (204 + (a : Int).toNat) (ka : Int).toNat)).toNat ≤ 1 := I.2 230 _ (show ((iC t (204 + (a : Int).toNat) (ka : Int).toNat)).toNat < 128 by first | exact oq_c7f4e9c1 b3007.2 | omega)
          have q3077 : iC t 230 ((iC t (204 + (a : Int).toNat) (ka : Int).toNat)).toNat = iC s 230 ((iC t (204 + (a : Int).toNat) (ka : Int).toNat)).toNat := fm_c F (by decide)
          refine d_br (bo_eq _ _) bx_eq (fun k ws X h1 h2 => z_if_eq X (t := 73) (show cdA 227 66 = some (.ifCond .eq 7, 3, 0, 0, 0) from rfl) (by decide) (rng_to _) h1 h2) (fun g3078 => ?_) (fun g3078 => ?_)
          ·
            refine d_lift (fun k ws X h => z_const X (show cdA 227 73 = some (.iconst 0, 1, 0, 0, 0) from rfl) h) ?_
            exact N3008 _ (Or.inr (Or.inl ⟨g3075, b3076, q3077, g3078, rfl⟩))
          ·
            refine d_lift (fun k ws X h => z_const X (show cdA 227 69 = some (.iconst 1, 1, 0, 0, 0) from rfl) h) ?_
            refine d_lift (fun k ws X h => z_goto X (t := 74) (show cdA 227 70 = some (.goto 4, 3, 0, 0, 0) from rfl) (by decide) h) ?_
            exact N3008 _ (Or.inr (Or.inr (⟨g3075, b3076, q3077, g3078, rfl⟩)))
  have L23 : ∀ (n : Nat) (t : PS) (a : Int), Bd t → Fm [] [161] s t → NW t → (0 ≤ a ∧ a ≤ 12) → (12 - a : Int).toNat < n → (∀ (t' : PS) (a' : Int), Bd t' → Fm [] [161] s t' → NW t' → (0 ≤ a' ∧ a' ≤ 12) → DS l s0 D A dT 227 (rmN 227) [] [161] (TU T 161 7) Q (TU T 161 7) 313 [(0, .ref (A 179)), (1, .int (Int32.ofInt a'))] [] t') → DS l s0 D A dT 227 (rmN 227) [] [161] (TU T 161 7) Q (TU T 161 7) 23 [(0, .ref (A 179)), (1, .int (Int32.ofInt a))] [] t := by
    intro n
    induction n with
    | zero =>
      intro t a I F jjNW hi hm kx
      exact absurd hm (Nat.not_lt_zero _)
    | succ n ih =>
      intro t a I F jjNW hi hm kx
      have hta4001 : ∀ a ∈ ([161, 230] : List Nat), ∀ j, j < (bA a).2.2 → (TU T 161 7).2 a j := hta_g hta (by decide)
      refine d_lift (fun k ws X h => z_load_n X (x := a) (show cdA 227 23 = some (.iload_n 1, 1, 0, 0, 0) from rfl) (List.Mem.tail _ (List.Mem.head _)) h) ?_
      refine d_lift (fun k ws X h => z_aload_n X (x := A 179) (show cdA 227 24 = some (.aload_n 0, 1, 0, 0, 0) from rfl) (List.Mem.head _) h) ?_
      refine d_getI 179 (show cdA 227 25 = some (.getfield 233, 3, 12, 22, 0) from rfl) (by decide) rfl rfl (hti 90 (by decide)) ?_
      have b4002 : (0 : Int) ≤ iI t 90 ∧ iI t 90 ≤ 12 := I.1 90
      have q4003 : iI t 90 = iI s 90 := fm_i F (by decide)
      refine d_br (bo_ge _ _) bx_ge (fun k ws X h1 h2 => z_icmp_ge X (t := 313) (show cdA 227 28 = some (.if_icmp .ge 285, 3, 3, 0, 0) from rfl) (by decide) ⟨by first | exact oq_fa4e5087 hi.1 | omega, by first | exact oq_78843a64 hi.2 | omega⟩ (rng_to _) h1 h2) (fun g4004 => ?_) (fun g4004 => ?_)
      ·
        refine d_lvs (lv := [(0, .ref (A 179)), (1, .int (Int32.ofInt a))]) (List.forall_mem_cons.mpr ⟨(List.Mem.head _), (List.forall_mem_cons.mpr ⟨(List.Mem.tail _ (List.Mem.head _)), (fun q h => absurd h List.not_mem_nil)⟩)⟩) ?_
        exact kx _ a I F jjNW (by first | exact ⟨hi.1, hi.2⟩ | omega)
      ·
        refine d_lift (fun k ws X h => z_const X (show cdA 227 31 = some (.iconst 0, 1, 0, 0, 0) from rfl) h) ?_
        refine d_lift (fun k ws X h => z_store_n X (lv' := [(2, .int (Int32.ofInt 0)), (0, .ref (A 179)), (1, .int (Int32.ofInt a))]) (show cdA 227 32 = some (.istore_n 2, 1, 0, 0, 0) from rfl) (by decide) (fun _ h => h) h) ?_
        refine d_lift (fun k ws X h => z_const X (show cdA 227 33 = some (.iconst 0, 1, 0, 0, 0) from rfl) h) ?_
        refine d_lift (fun k ws X h => z_store_n X (lv' := [(3, .int (Int32.ofInt 0)), (2, .int (Int32.ofInt 0)), (0, .ref (A 179)), (1, .int (Int32.ofInt a))]) (show cdA 227 34 = some (.istore_n 3, 1, 0, 0, 0) from rfl) (by decide) (fun _ h => h) h) ?_
        refine d_lvs (lv := [(0, .ref (A 179)), (1, .int (Int32.ofInt a)), (2, .int (Int32.ofInt 0)), (3, .int (Int32.ofInt 0))]) (List.forall_mem_cons.mpr ⟨(List.Mem.tail _ (List.Mem.tail _ (List.Mem.head _))), (List.forall_mem_cons.mpr ⟨(List.Mem.tail _ (List.Mem.tail _ (List.Mem.tail _ (List.Mem.head _)))), (List.forall_mem_cons.mpr ⟨(List.Mem.tail _ (List.Mem.head _)), (List.forall_mem_cons.mpr ⟨(List.Mem.head _), (fun q h => absurd h List.not_mem_nil)⟩)⟩)⟩)⟩) ?_
        refine L35 ((24 - 0 : Int).toNat + 1) t a 0 0 I F jjNW (by first | exact ⟨hi.1, oq_095218f7 q4003 g4004, oq_e4d7f3c5 g4004 b4002.2, Or.inl (by decide), by decide, by decide⟩ | omega) (Nat.lt_succ_self _) ?_
        intro s4005 x4006 x4007 Is4005 Fs4005 JNW_s4005 hs4005
        have hta4008 : ∀ a ∈ ([161, 230] : List Nat), ∀ j, j < (bA a).2.2 → (TU T 161 7).2 a j := hta_g hta (by decide)
        refine d_lift (fun k ws X h => z_aload_n X (x := A 179) (show cdA 227 284 = some (.aload_n 0, 1, 0, 0, 0) from rfl) (List.Mem.head _) h) ?_
        refine d_liftS (fun k s X h => s_getR X 179 (show cdA 227 285 = some (.getfield 32, 3, 12, 21, 0) from rfl) (by decide) rfl rfl h) ?_
        refine d_lift (fun k ws X h => z_const X (show cdA 227 288 = some (.iconst 0, 1, 0, 0, 0) from rfl) h) ?_
        refine d_lift (fun k ws X h => w_dup2_11 X.1 (ax_d X (show cdA 227 289 = some (.dup2, 1, 0, 0, 0) from rfl)) rfl rfl h) ?_
        refine d_ald 184 (show cdA 227 290 = some (.iaload, 1, 0, 0, 0) from rfl) (by decide) rfl (by decide) (show 0 < 7 by decide) (by decide) (hta4008 161 (by decide) _ (show (0 : Int).toNat < 7 by first | exact oq_e8ec3fa8 | omega)) ?_
        have b4009 : ((-2147483648) : Int) ≤ iC s4005 161 (0 : Int).toNat ∧ iC s4005 161 (0 : Int).toNat ≤ 2147483647 := Is4005.2 161 _ (show (0 : Int).toNat < 7 by first | exact oq_e8ec3fa8 | omega)
        refine d_lift (fun k ws X h => z_load_n X (x := x4006) (show cdA 227 291 = some (.iload_n 2, 1, 0, 0, 0) from rfl) (List.Mem.tail _ (List.Mem.tail _ (List.Mem.head _))) h) ?_
        have N4010 : ∀ e4011 : Int, (((x4006 = 0) ∧ e4011 = 0) ∨ ((x4006 ≠ 0) ∧ ((0 : Int) ≤ iC s4005 203 (a).toNat ∧ iC s4005 203 (a).toNat ≤ 50) ∧ (iC s4005 203 (a).toNat = iC s 203 (a).toNat) ∧ e4011 = (iC s4005 203 (a).toNat))) → DS l s0 D A dT 227 (rmN 227) [] [161] (TU T 161 7) Q (TU T 161 7) 305 [(0, .ref (A 179)), (1, .int (Int32.ofInt a)), (2, .int (Int32.ofInt x4006)), (3, .int (Int32.ofInt x4007))] [.int (Int32.ofInt e4011), .int (Int32.ofInt (iC s4005 161 (0 : Int).toNat)), .int (Int32.ofInt 0), .ref (A 184)] s4005 := by
          intro e4011 he4011
          refine d_lift (fun k ws X h => z_add X (show cdA 227 305 = some (.iadd, 1, 0, 0, 0) from rfl) h) ?_
          refine d_any (fun y4012 hy4012 => ?_)
          refine d_ast 184 (show cdA 227 306 = some (.iastore, 1, 0, 0, 0) from rfl) (by decide) rfl (by decide) (show 0 < 7 by decide) (by decide) (show 161 ∈ _ by decide) (show ((-2147483648) : Int) ≤ y4012 ∧ y4012 ≤ 2147483647 by first | exact ⟨hy4012.1, hy4012.2⟩ | omega) hy4012 ?_
          refine d_mono (T' := TU T 161 7) (fun _ h => h) (fun _ _ h => Or.inr h) ?_
          obtain ⟨s4013, hs4013⟩ : ∃ x0, x0 = uC s4005 161 (0 : Int).toNat (Int32.ofInt y4012) := ⟨_, rfl⟩
          rw [← hs4013]
          have Is4013 : Bd s4013 := by rw [hs4013]; exact bd_C Is4005 (show ((-2147483648) : Int) ≤ y4012 ∧ y4012 ≤ 2147483647 by first | exact ⟨hy4012.1, hy4012.2⟩ | omega) hy4012
          have Fs4013 := fm_C (i := (0 : Int).toNat) (x := Int32.ofInt y4012) Fs4005 (show 161 ∈ _ by decide)
          rw [← hs4013] at Fs4013
          have fs4013 : Fm [] [161] s4005 s4013 := by rw [hs4013]; exact fm_C (fm_rf _ _ _) (show 161 ∈ _ by decide)
          have JNW_s4013 : NW s4013 := NW_fm fs4013 (by decide) JNW_s4005
          refine d_lift (fun k ws X h => z_inc X (x := a) (lv' := [(1, .int (Int32.ofInt (a + 1))), (0, .ref (A 179)), (2, .int (Int32.ofInt x4006)), (3, .int (Int32.ofInt x4007))]) (show cdA 227 307 = some (.iinc 1 1, 3, 0, 0, 0) from rfl) (by decide) (List.Mem.tail _ (List.Mem.head _)) (fun _ h => h) h) ?_
          refine d_lift (fun k ws X h => z_goto X (t := 23) (show cdA 227 310 = some (.goto (-287), 3, 0, 0, 0) from rfl) (by decide) h) ?_
          refine d_lvs (lv := [(0, .ref (A 179)), (1, .int (Int32.ofInt (a + 1)))]) (List.forall_mem_cons.mpr ⟨(List.Mem.tail _ (List.Mem.head _)), (List.forall_mem_cons.mpr ⟨(List.Mem.head _), (fun q h => absurd h List.not_mem_nil)⟩)⟩) ?_
          exact ih _ (a + 1) Is4013 Fs4013 JNW_s4013 (by first | exact ⟨oq_54f49eb5 hs4005.1, oq_51d1204d hs4005.2.2.1⟩ | omega) (by first | exact qk_me hm (by decide) (oq_8b937940 hs4005.2.2.1) | omega) kx
        refine d_br (bo_eq _ _) bx_eq (fun k ws X h1 h2 => z_if_eq X (t := 304) (show cdA 227 292 = some (.ifCond .eq 12, 3, 0, 0, 0) from rfl) (by decide) ⟨by first | exact oq_bde653e9 hs4005.2.2.2.1 | omega, by first | exact oq_4ad2cb8b hs4005.2.2.2.1 | omega⟩ h1 h2) (fun g4014 => ?_) (fun g4014 => ?_)
        ·
          refine d_lift (fun k ws X h => z_const X (show cdA 227 304 = some (.iconst 0, 1, 0, 0, 0) from rfl) h) ?_
          exact N4010 _ (Or.inl ⟨g4014, rfl⟩)
        ·
          refine d_lift (fun k ws X h => z_aload_n X (x := A 179) (show cdA 227 295 = some (.aload_n 0, 1, 0, 0, 0) from rfl) (List.Mem.head _) h) ?_
          refine d_liftS (fun k s X h => s_getR X 179 (show cdA 227 296 = some (.getfield 61, 3, 12, 32, 0) from rfl) (by decide) rfl rfl h) ?_
          refine d_lift (fun k ws X h => z_load_n X (x := a) (show cdA 227 299 = some (.iload_n 1, 1, 0, 0, 0) from rfl) (List.Mem.tail _ (List.Mem.head _)) h) ?_
          refine d_ald 229 (show cdA 227 300 = some (.iaload, 1, 0, 0, 0) from rfl) (by decide) rfl (by first | exact hs4005.1 | omega) (show a < 12 by first | exact oq_0ddfcfee hs4005.2.2.1 | omega) (by decide) (Or.inr ((htn _ (show (a : Int).toNat < 12 by omega) (show (((a : Int).toNat : Nat) : Int) < iI s 90 by omega)).2.1)) ?_
          have b4015 : (0 : Int) ≤ iC s4005 203 (a).toNat ∧ iC s4005 203 (a).toNat ≤ 50 := Is4005.2 203 _ (show (a).toNat < 12 by first | exact oq_9c5fa447 hs4005.2.2.1 | omega)
          have q4016 : iC s4005 203 (a).toNat = iC s 203 (a).toNat := fm_c Fs4005 (by decide)
          refine d_lift (fun k ws X h => z_goto X (t := 305) (show cdA 227 301 = some (.goto 4, 3, 0, 0, 0) from rfl) (by decide) h) ?_
          exact N4010 _ (Or.inr (⟨g4014, b4015, q4016, rfl⟩))
  have L315 : ∀ (n : Nat) (t : PS) (a : Int), Bd t → Fm [] [161] s t → NW t → (0 ≤ a ∧ a ≤ 128) → (128 - a : Int).toNat < n → (∀ (t' : PS) (a' : Int), Bd t' → Fm [] [161] s t' → NW t' → (0 ≤ a' ∧ a' ≤ 128) → DS l s0 D A dT 227 (rmN 227) [] [161] (TU T 161 7) Q (TU T 161 7) 370 [(0, .ref (A 179)), (1, .int (Int32.ofInt a'))] [] t') → DS l s0 D A dT 227 (rmN 227) [] [161] (TU T 161 7) Q (TU T 161 7) 315 [(0, .ref (A 179)), (1, .int (Int32.ofInt a))] [] t := by
    intro n
    induction n with
    | zero =>
      intro t a I F jjNW hi hm kx
      exact absurd hm (Nat.not_lt_zero _)
    | succ n ih =>
      intro t a I F jjNW hi hm kx
      have hta5001 : ∀ a ∈ ([161, 230] : List Nat), ∀ j, j < (bA a).2.2 → (TU T 161 7).2 a j := hta_g hta (by decide)
      refine d_lift (fun k ws X h => z_load_n X (x := a) (show cdA 227 315 = some (.iload_n 1, 1, 0, 0, 0) from rfl) (List.Mem.tail _ (List.Mem.head _)) h) ?_
      refine d_lift (fun k ws X h => z_sipush X (show cdA 227 316 = some (.sipush 128, 3, 0, 0, 128) from rfl) h) ?_
      refine d_br (bo_ge _ _) bx_ge (fun k ws X h1 h2 => z_icmp_ge X (t := 370) (show cdA 227 319 = some (.if_icmp .ge 51, 3, 3, 0, 0) from rfl) (by decide) ⟨by first | exact oq_fa4e5087 hi.1 | omega, by first | exact oq_4ee82282 hi.2 | omega⟩ (by decide) h1 h2) (fun g5002 => ?_) (fun g5002 => ?_)
      ·
        refine d_lvs (lv := [(0, .ref (A 179)), (1, .int (Int32.ofInt a))]) (List.forall_mem_cons.mpr ⟨(List.Mem.head _), (List.forall_mem_cons.mpr ⟨(List.Mem.tail _ (List.Mem.head _)), (fun q h => absurd h List.not_mem_nil)⟩)⟩) ?_
        exact kx _ a I F jjNW (by first | exact ⟨hi.1, hi.2⟩ | omega)
      ·
        refine d_lift (fun k ws X h => z_aload_n X (x := A 179) (show cdA 227 322 = some (.aload_n 0, 1, 0, 0, 0) from rfl) (List.Mem.head _) h) ?_
        refine d_liftS (fun k s X h => s_getR X 179 (show cdA 227 323 = some (.getfield 76, 3, 12, 37, 0) from rfl) (by decide) rfl rfl h) ?_
        refine d_lift (fun k ws X h => z_load_n X (x := a) (show cdA 227 326 = some (.iload_n 1, 1, 0, 0, 0) from rfl) (List.Mem.tail _ (List.Mem.head _)) h) ?_
        refine d_zald 258 (show cdA 227 327 = some (.baload, 1, 0, 0, 0) from rfl) (by decide) rfl (by first | exact hi.1 | omega) (show a < 128 by first | exact g5002 | omega) (by decide) (hta5001 230 (by decide) _ (show (a).toNat < 128 by first | exact oq_afb89947 g5002 | omega)) ?_
        have b5003 : (0 : Int) ≤ iC t 230 (a).toNat ∧ iC t 230 (a).toNat ≤ 1 := I.2 230 _ (show (a).toNat < 128 by first | exact oq_afb89947 g5002 | omega)
        have q5004 : iC t 230 (a).toNat = iC s 230 (a).toNat := fm_c F (by decide)
        refine d_br (bo_ne _ _) bx_ne (fun k ws X h1 h2 => z_if_ne X (t := 334) (show cdA 227 328 = some (.ifCond .ne 6, 3, 1, 0, 0) from rfl) (by decide) (rng_to _) h1 h2) (fun g5005 => ?_) (fun g5005 => ?_)
        ·
          refine d_lift (fun k ws X h => z_aload_n X (x := A 179) (show cdA 227 334 = some (.aload_n 0, 1, 0, 0, 0) from rfl) (List.Mem.head _) h) ?_
          refine d_liftS (fun k s X h => s_getR X 179 (show cdA 227 335 = some (.getfield 32, 3, 12, 21, 0) from rfl) (by decide) rfl rfl h) ?_
          refine d_lift (fun k ws X h => z_const X (show cdA 227 338 = some (.iconst 4, 1, 0, 0, 0) from rfl) h) ?_
          refine d_lift (fun k ws X h => w_dup2_11 X.1 (ax_d X (show cdA 227 339 = some (.dup2, 1, 0, 0, 0) from rfl)) rfl rfl h) ?_
          refine d_ald 184 (show cdA 227 340 = some (.iaload, 1, 0, 0, 0) from rfl) (by decide) rfl (by decide) (show 4 < 7 by decide) (by decide) (hta5001 161 (by decide) _ (show (4 : Int).toNat < 7 by first | exact oq_5d2a5fd4 | omega)) ?_
          have b5006 : ((-2147483648) : Int) ≤ iC t 161 (4 : Int).toNat ∧ iC t 161 (4 : Int).toNat ≤ 2147483647 := I.2 161 _ (show (4 : Int).toNat < 7 by first | exact oq_5d2a5fd4 | omega)
          refine d_lift (fun k ws X h => z_const X (show cdA 227 341 = some (.iconst 1, 1, 0, 0, 0) from rfl) h) ?_
          refine d_lift (fun k ws X h => z_add X (show cdA 227 342 = some (.iadd, 1, 0, 0, 0) from rfl) h) ?_
          refine d_any (fun y5007 hy5007 => ?_)
          refine d_ast 184 (show cdA 227 343 = some (.iastore, 1, 0, 0, 0) from rfl) (by decide) rfl (by decide) (show 4 < 7 by decide) (by decide) (show 161 ∈ _ by decide) (show ((-2147483648) : Int) ≤ y5007 ∧ y5007 ≤ 2147483647 by first | exact ⟨hy5007.1, hy5007.2⟩ | omega) hy5007 ?_
          refine d_mono (T' := TU T 161 7) (fun _ h => h) (fun _ _ h => Or.inr h) ?_
          obtain ⟨s5008, hs5008⟩ : ∃ x0, x0 = uC t 161 (4 : Int).toNat (Int32.ofInt y5007) := ⟨_, rfl⟩
          rw [← hs5008]
          have Is5008 : Bd s5008 := by rw [hs5008]; exact bd_C I (show ((-2147483648) : Int) ≤ y5007 ∧ y5007 ≤ 2147483647 by first | exact ⟨hy5007.1, hy5007.2⟩ | omega) hy5007
          have Fs5008 := fm_C (i := (4 : Int).toNat) (x := Int32.ofInt y5007) F (show 161 ∈ _ by decide)
          rw [← hs5008] at Fs5008
          have fs5008 : Fm [] [161] t s5008 := by rw [hs5008]; exact fm_C (fm_rf _ _ _) (show 161 ∈ _ by decide)
          have JNW_s5008 : NW s5008 := NW_fm fs5008 (by decide) jjNW
          refine d_lift (fun k ws X h => z_aload_n X (x := A 179) (show cdA 227 344 = some (.aload_n 0, 1, 0, 0, 0) from rfl) (List.Mem.head _) h) ?_
          refine d_liftS (fun k s X h => s_getR X 179 (show cdA 227 345 = some (.getfield 32, 3, 12, 21, 0) from rfl) (by decide) rfl rfl h) ?_
          refine d_lift (fun k ws X h => z_const X (show cdA 227 348 = some (.iconst 5, 1, 0, 0, 0) from rfl) h) ?_
          refine d_lift (fun k ws X h => w_dup2_11 X.1 (ax_d X (show cdA 227 349 = some (.dup2, 1, 0, 0, 0) from rfl)) rfl rfl h) ?_
          refine d_ald 184 (show cdA 227 350 = some (.iaload, 1, 0, 0, 0) from rfl) (by decide) rfl (by decide) (show 5 < 7 by decide) (by decide) (hta5001 161 (by decide) _ (show (5 : Int).toNat < 7 by first | exact oq_2191f643 | omega)) ?_
          have b5009 : ((-2147483648) : Int) ≤ iC s5008 161 (5 : Int).toNat ∧ iC s5008 161 (5 : Int).toNat ≤ 2147483647 := Is5008.2 161 _ (show (5 : Int).toNat < 7 by first | exact oq_2191f643 | omega)
          refine d_lift (fun k ws X h => z_load_n X (x := a) (show cdA 227 351 = some (.iload_n 1, 1, 0, 0, 0) from rfl) (List.Mem.tail _ (List.Mem.head _)) h) ?_
          refine d_lift (fun k ws X h => z_bipush X (show cdA 227 352 = some (.bipush 64, 2, 0, 0, 64) from rfl) h) ?_
          have N5010 : ∀ e5011 : Int, (((64 ≤ a) ∧ e5011 = 0) ∨ ((a < 64) ∧ e5011 = 1)) → DS l s0 D A dT 227 (rmN 227) [] [161] (TU T 161 7) Q (TU T 161 7) 362 [(0, .ref (A 179)), (1, .int (Int32.ofInt a))] [.int (Int32.ofInt e5011), .int (Int32.ofInt (iC s5008 161 (5 : Int).toNat)), .int (Int32.ofInt 5), .ref (A 184)] s5008 := by
            intro e5011 he5011
            have re5011 : 0 ≤ e5011 ∧ e5011 ≤ 1 := by omega
            refine d_lift (fun k ws X h => z_add X (show cdA 227 362 = some (.iadd, 1, 0, 0, 0) from rfl) h) ?_
            refine d_any (fun y5012 hy5012 => ?_)
            refine d_ast 184 (show cdA 227 363 = some (.iastore, 1, 0, 0, 0) from rfl) (by decide) rfl (by decide) (show 5 < 7 by decide) (by decide) (show 161 ∈ _ by decide) (show ((-2147483648) : Int) ≤ y5012 ∧ y5012 ≤ 2147483647 by first | exact ⟨hy5012.1, hy5012.2⟩ | omega) hy5012 ?_
            refine d_mono (T' := TU T 161 7) (fun _ h => h) (fun _ _ h => Or.inr h) ?_
            obtain ⟨s5013, hs5013⟩ : ∃ x0, x0 = uC s5008 161 (5 : Int).toNat (Int32.ofInt y5012) := ⟨_, rfl⟩
            rw [← hs5013]
            have Is5013 : Bd s5013 := by rw [hs5013]; exact bd_C Is5008 (show ((-2147483648) : Int) ≤ y5012 ∧ y5012 ≤ 2147483647 by first | exact ⟨hy5012.1, hy5012.2⟩ | omega) hy5012
            have Fs5013 := fm_C (i := (5 : Int).toNat) (x := Int32.ofInt y5012) Fs5008 (show 161 ∈ _ by decide)
            rw [← hs5013] at Fs5013
            have fs5013 : Fm [] [161] s5008 s5013 := by rw [hs5013]; exact fm_C (fm_rf _ _ _) (show 161 ∈ _ by decide)
            have JNW_s5013 : NW s5013 := NW_fm fs5013 (by decide) JNW_s5008
            refine d_lift (fun k ws X h => z_inc X (x := a) (lv' := [(1, .int (Int32.ofInt (a + 1))), (0, .ref (A 179))]) (show cdA 227 364 = some (.iinc 1 1, 3, 0, 0, 0) from rfl) (by decide) (List.Mem.tail _ (List.Mem.head _)) (fun _ h => h) h) ?_
            refine d_lift (fun k ws X h => z_goto X (t := 315) (show cdA 227 367 = some (.goto (-52), 3, 0, 0, 0) from rfl) (by decide) h) ?_
            refine d_lvs (lv := [(0, .ref (A 179)), (1, .int (Int32.ofInt (a + 1)))]) (List.forall_mem_cons.mpr ⟨(List.Mem.tail _ (List.Mem.head _)), (List.forall_mem_cons.mpr ⟨(List.Mem.head _), (fun q h => absurd h List.not_mem_nil)⟩)⟩) ?_
            exact ih _ (a + 1) Is5013 Fs5013 JNW_s5013 (by first | exact ⟨oq_54f49eb5 hi.1, oq_d2afb425 g5002⟩ | omega) (by first | exact qk_me hm (by decide) (oq_c268b7bd g5002) | omega) kx
          refine d_br (bo_ge _ _) bx_ge (fun k ws X h1 h2 => z_icmp_ge X (t := 361) (show cdA 227 354 = some (.if_icmp .ge 7, 3, 3, 0, 0) from rfl) (by decide) ⟨by first | exact oq_fa4e5087 hi.1 | omega, by first | exact oq_fe95e6e4 g5002 | omega⟩ (by decide) h1 h2) (fun g5014 => ?_) (fun g5014 => ?_)
          ·
            refine d_lift (fun k ws X h => z_const X (show cdA 227 361 = some (.iconst 0, 1, 0, 0, 0) from rfl) h) ?_
            exact N5010 _ (Or.inl ⟨g5014, rfl⟩)
          ·
            refine d_lift (fun k ws X h => z_const X (show cdA 227 357 = some (.iconst 1, 1, 0, 0, 0) from rfl) h) ?_
            refine d_lift (fun k ws X h => z_goto X (t := 362) (show cdA 227 358 = some (.goto 4, 3, 0, 0, 0) from rfl) (by decide) h) ?_
            exact N5010 _ (Or.inr (⟨g5014, rfl⟩))
        ·
          refine d_lift (fun k ws X h => z_goto X (t := 364) (show cdA 227 331 = some (.goto 33, 3, 0, 0, 0) from rfl) (by decide) h) ?_
          refine d_lift (fun k ws X h => z_inc X (x := a) (lv' := [(1, .int (Int32.ofInt (a + 1))), (0, .ref (A 179))]) (show cdA 227 364 = some (.iinc 1 1, 3, 0, 0, 0) from rfl) (by decide) (List.Mem.tail _ (List.Mem.head _)) (fun _ h => h) h) ?_
          refine d_lift (fun k ws X h => z_goto X (t := 315) (show cdA 227 367 = some (.goto (-52), 3, 0, 0, 0) from rfl) (by decide) h) ?_
          refine d_lvs (lv := [(0, .ref (A 179)), (1, .int (Int32.ofInt (a + 1)))]) (List.forall_mem_cons.mpr ⟨(List.Mem.tail _ (List.Mem.head _)), (List.forall_mem_cons.mpr ⟨(List.Mem.head _), (fun q h => absurd h List.not_mem_nil)⟩)⟩) ?_
          exact ih _ (a + 1) I F jjNW (by first | exact ⟨oq_54f49eb5 hi.1, oq_d2afb425 g5002⟩ | omega) (by first | exact qk_me hm (by decide) (oq_c268b7bd g5002) | omega) kx
  refine d_lift (fun k ws X h => z_const X (show cdA 227 0 = some (.iconst 0, 1, 0, 0, 0) from rfl) h) ?_
  refine d_lift (fun k ws X h => z_store_n X (lv' := [(1, .int (Int32.ofInt 0)), (0, .ref (A 179))]) (show cdA 227 1 = some (.istore_n 1, 1, 0, 0, 0) from rfl) (by decide) (fun _ h => h) h) ?_
  refine d_lvs (lv := [(0, .ref (A 179)), (1, .int (Int32.ofInt 0))]) (List.forall_mem_cons.mpr ⟨(List.Mem.tail _ (List.Mem.head _)), (List.forall_mem_cons.mpr ⟨(List.Mem.head _), (fun q h => absurd h List.not_mem_nil)⟩)⟩) ?_
  refine d_mono (T' := TU T 161 0) (fun _ h => h) (TU_0 (by omega)) ?_
  refine L2 ((7 - 0 : Int).toNat + 1) s 0 I F jNW (by first | exact ⟨by decide, by decide⟩ | omega) (Nat.lt_succ_self _) ?_
  intro s1 x2 Is1 Fs1 JNW_s1 hs1
  refine d_mono (T' := TU T 161 7) (fun _ h => h) (TU_le (by omega)) ?_
  have hta3 : ∀ a ∈ ([161, 230] : List Nat), ∀ j, j < (bA a).2.2 → (TU T 161 7).2 a j := hta_g hta (by decide)
  refine d_lift (fun k ws X h => z_const X (show cdA 227 21 = some (.iconst 0, 1, 0, 0, 0) from rfl) h) ?_
  refine d_lift (fun k ws X h => z_store_n X (lv' := [(1, .int (Int32.ofInt 0)), (0, .ref (A 179))]) (show cdA 227 22 = some (.istore_n 1, 1, 0, 0, 0) from rfl) (by decide) (fun _ h => h) h) ?_
  refine d_lvs (lv := [(0, .ref (A 179)), (1, .int (Int32.ofInt 0))]) (List.forall_mem_cons.mpr ⟨(List.Mem.tail _ (List.Mem.head _)), (List.forall_mem_cons.mpr ⟨(List.Mem.head _), (fun q h => absurd h List.not_mem_nil)⟩)⟩) ?_
  refine L23 ((12 - 0 : Int).toNat + 1) s1 0 Is1 Fs1 JNW_s1 (by first | exact ⟨by decide, by decide⟩ | omega) (Nat.lt_succ_self _) ?_
  intro s4 x5 Is4 Fs4 JNW_s4 hs4
  have hta6 : ∀ a ∈ ([161, 230] : List Nat), ∀ j, j < (bA a).2.2 → (TU T 161 7).2 a j := hta_g hta (by decide)
  refine d_lift (fun k ws X h => z_const X (show cdA 227 313 = some (.iconst 0, 1, 0, 0, 0) from rfl) h) ?_
  refine d_lift (fun k ws X h => z_store_n X (lv' := [(1, .int (Int32.ofInt 0)), (0, .ref (A 179))]) (show cdA 227 314 = some (.istore_n 1, 1, 0, 0, 0) from rfl) (by decide) (fun _ h => h) h) ?_
  refine d_lvs (lv := [(0, .ref (A 179)), (1, .int (Int32.ofInt 0))]) (List.forall_mem_cons.mpr ⟨(List.Mem.tail _ (List.Mem.head _)), (List.forall_mem_cons.mpr ⟨(List.Mem.head _), (fun q h => absurd h List.not_mem_nil)⟩)⟩) ?_
  refine L315 ((128 - 0 : Int).toNat + 1) s4 0 Is4 Fs4 JNW_s4 (by first | exact ⟨by decide, by decide⟩ | omega) (Nat.lt_succ_self _) ?_
  intro s7 x8 Is7 Fs7 JNW_s7 hs7
  have hta9 : ∀ a ∈ ([161, 230] : List Nat), ∀ j, j < (bA a).2.2 → (TU T 161 7).2 a j := hta_g hta (by decide)
  refine d_lift (fun k ws X h => z_aload_n X (x := A 179) (show cdA 227 370 = some (.aload_n 0, 1, 0, 0, 0) from rfl) (List.Mem.head _) h) ?_
  refine d_liftS (fun k s X h => s_getR X 179 (show cdA 227 371 = some (.getfield 32, 3, 12, 21, 0) from rfl) (by decide) rfl rfl h) ?_
  refine d_lift (fun k ws X h => z_bipush X (show cdA 227 374 = some (.bipush 6, 2, 0, 0, 6) from rfl) h) ?_
  refine d_lift (fun k ws X h => z_aload_n X (x := A 179) (show cdA 227 376 = some (.aload_n 0, 1, 0, 0, 0) from rfl) (List.Mem.head _) h) ?_
  refine d_getI 179 (show cdA 227 377 = some (.getfield 26, 3, 12, 19, 0) from rfl) (by decide) rfl rfl (hti 89 (by decide)) ?_
  have b10 : (1 : Int) ≤ iI s7 89 ∧ iI s7 89 ≤ 8 := Is7.1 89
  have q11 : iI s7 89 = iI s 89 := fm_i Fs7 (by decide)
  refine d_ast 184 (show cdA 227 380 = some (.iastore, 1, 0, 0, 0) from rfl) (by decide) rfl (by decide) (show 6 < 7 by decide) (by decide) (show 161 ∈ _ by decide) (show ((-2147483648) : Int) ≤ (iI s7 89) ∧ (iI s7 89) ≤ 2147483647 by first | exact ⟨oq_9462313e b10.1, oq_d3f5d874 b10.2⟩ | omega) (rng_to _) ?_
  refine d_mono (T' := TU T 161 7) (fun _ h => h) (fun _ _ h => Or.inr h) ?_
  obtain ⟨s12, hs12⟩ : ∃ x0, x0 = uC s7 161 (6 : Int).toNat (Int32.ofInt (iI s7 89)) := ⟨_, rfl⟩
  rw [← hs12]
  have Is12 : Bd s12 := by rw [hs12]; exact bd_C Is7 (show ((-2147483648) : Int) ≤ (iI s7 89) ∧ (iI s7 89) ≤ 2147483647 by first | exact ⟨oq_9462313e b10.1, oq_d3f5d874 b10.2⟩ | omega) (rng_to _)
  have Fs12 := fm_C (i := (6 : Int).toNat) (x := Int32.ofInt (iI s7 89)) Fs7 (show 161 ∈ _ by decide)
  rw [← hs12] at Fs12
  have fs12 : Fm [] [161] s7 s12 := by rw [hs12]; exact fm_C (fm_rf _ _ _) (show 161 ∈ _ by decide)
  have JNW_s12 : NW s12 := NW_fm fs12 (by decide) JNW_s7
  exact d_vret rfl (show cdA 227 381 = some (.return_, 1, 0, 0, 0) from rfl) (fun _ h => h) (hQ _ _ ⟨Is12, Fs12, JNW_s12, rfl, trivial⟩)
end M46
