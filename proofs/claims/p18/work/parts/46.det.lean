/-! Determined: listen -/
section M46
variable {l : Launch} {s0 : State} {D : va_G} {tys : List (ClassId × FieldType)} {a0 : Array Value} {A : Nat → Nat} {dT : Nat → ClassId} {s : PS}
set_option maxHeartbeats 16000000 in
theorem d_listen (G : GX l s0 D tys a0 dT) (I : Bd s) (jNW : NW s)  {T : TT} (hti : ∀ q ∈ ([90, 89] : List Nat), T.1 q) (hta : ∀ a ∈ ([230] : List Nat), ∀ j, j < (bA a).2.2 → T.2 a j) (htn : OKN T s) : CD l s0 D A dT 227 (rmN 227) [] [161] T (TU T 161 7) [.ref (A 179)] s (fun o t => Bd t ∧ Fm [] [161] s t ∧ NW t ∧ o = .inl none ∧ (True)) := by
  refine cd_of G (by decide) (Nat.le_of_ble_eq_true rfl) (fun Q hQ => ?_)
  have I0 := I
  show DS l s0 D A dT 227 (rmN 227) [] [161] (TU T 161 7) Q (T) 0 [(0, .ref (A 179))] [] s
  have F : Fm [] [161] s s := fm_rf _ _ s
  have L2 : ∀ (n : Nat) (t : PS) (ka : Int), Bd t → Fm [] [161] s t → NW t → (0 ≤ ka ∧ ka ≤ 7) → 7 - ka ≤ n → (∀ (t' : PS) (ka' : Int), Bd t' → Fm [] [161] s t' → NW t' → (7 ≤ ka') → DS l s0 D A dT 227 (rmN 227) [] [161] (TU T 161 7) Q (TU T 161 ka') 21 [(0, .ref (A 179)), (1, .int (Int32.ofInt ka'))] [] t') → DS l s0 D A dT 227 (rmN 227) [] [161] (TU T 161 7) Q (TU T 161 ka) 2 [(0, .ref (A 179)), (1, .int (Int32.ofInt ka))] [] t := by
    intro n
    induction n with
    | zero =>
      intro t ka I F jjNW hi hm kx
      refine d_lift (fun k ws X h => z_load_n X (x := ka) (show cdA 227 2 = some (.iload_n 1, 1, 0, 0, 0) from rfl) (List.Mem.tail _ (List.Mem.head _)) h) ?_
      refine d_lift (fun k ws X h => z_bipush X (show cdA 227 3 = some (.bipush 7, 2, 0, 0, 7) from rfl) h) ?_
      refine d_br (by omega) (by omega) (fun k ws X h1 h2 => z_icmp_ge X (t := 21) (show cdA 227 5 = some (.if_icmp .ge 16, 3, 3, 0, 0) from rfl) (by decide) ⟨by omega, by omega⟩ ⟨by omega, by omega⟩ h1 h2) (fun g1001 => ?_) (fun g1001 => ?_)
      ·
        refine d_lvs (lv := [(0, .ref (A 179)), (1, .int (Int32.ofInt ka))]) (List.forall_mem_cons.mpr ⟨(List.Mem.head _), (List.forall_mem_cons.mpr ⟨(List.Mem.tail _ (List.Mem.head _)), (fun q h => absurd h List.not_mem_nil)⟩)⟩) ?_
        exact kx _ ka I F jjNW (by omega)
      ·
        refine d_lift (fun k ws X h => z_aload_n X (x := A 179) (show cdA 227 8 = some (.aload_n 0, 1, 0, 0, 0) from rfl) (List.Mem.head _) h) ?_
        refine d_liftS (fun k s X h => s_getR X 179 (show cdA 227 9 = some (.getfield 32, 3, 12, 21, 0) from rfl) (by decide) rfl rfl h) ?_
        refine d_lift (fun k ws X h => z_load_n X (x := ka) (show cdA 227 12 = some (.iload_n 1, 1, 0, 0, 0) from rfl) (List.Mem.tail _ (List.Mem.head _)) h) ?_
        refine d_lift (fun k ws X h => z_const X (show cdA 227 13 = some (.iconst 0, 1, 0, 0, 0) from rfl) h) ?_
        refine d_ast 184 (show cdA 227 14 = some (.iastore, 1, 0, 0, 0) from rfl) (by decide) rfl (by omega) (show ka < 7 by omega) (by decide) (show 161 ∈ _ by decide) (show ((-2147483648) : Int) ≤ 0 ∧ 0 ≤ 2147483647 by omega) ⟨by omega, by omega⟩ ?_
        obtain ⟨s1002, hs1002⟩ : ∃ x0, x0 = uC t 161 (ka).toNat (Int32.ofInt 0) := ⟨_, rfl⟩
        rw [← hs1002]
        have Is1002 : Bd s1002 := by rw [hs1002]; exact bd_C I (show ((-2147483648) : Int) ≤ 0 ∧ 0 ≤ 2147483647 by omega) ⟨by omega, by omega⟩
        have Fs1002 := fm_C (i := (ka).toNat) (x := Int32.ofInt 0) F (show 161 ∈ _ by decide)
        rw [← hs1002] at Fs1002
        have fs1002 : Fm [] [161] t s1002 := by rw [hs1002]; exact fm_C (fm_rf _ _ _) (show 161 ∈ _ by decide)
        have JNW_s1002 : NW s1002 := NW_fm fs1002 (by decide) jjNW
        refine d_lift (fun k ws X h => z_inc X (x := ka) (lv' := [(1, .int (Int32.ofInt (ka + 1))), (0, .ref (A 179))]) (show cdA 227 15 = some (.iinc 1 1, 3, 0, 0, 0) from rfl) (by decide) (List.Mem.tail _ (List.Mem.head _)) (fun _ h => h) h) ?_
        refine d_lift (fun k ws X h => z_goto X (t := 2) (show cdA 227 18 = some (.goto (-16), 3, 0, 0, 0) from rfl) (by decide) h) ?_
        exfalso
        omega
    | succ n ih =>
      intro t ka I F jjNW hi hm kx
      refine d_lift (fun k ws X h => z_load_n X (x := ka) (show cdA 227 2 = some (.iload_n 1, 1, 0, 0, 0) from rfl) (List.Mem.tail _ (List.Mem.head _)) h) ?_
      refine d_lift (fun k ws X h => z_bipush X (show cdA 227 3 = some (.bipush 7, 2, 0, 0, 7) from rfl) h) ?_
      refine d_br (by omega) (by omega) (fun k ws X h1 h2 => z_icmp_ge X (t := 21) (show cdA 227 5 = some (.if_icmp .ge 16, 3, 3, 0, 0) from rfl) (by decide) ⟨by omega, by omega⟩ ⟨by omega, by omega⟩ h1 h2) (fun g1001 => ?_) (fun g1001 => ?_)
      ·
        refine d_lvs (lv := [(0, .ref (A 179)), (1, .int (Int32.ofInt ka))]) (List.forall_mem_cons.mpr ⟨(List.Mem.head _), (List.forall_mem_cons.mpr ⟨(List.Mem.tail _ (List.Mem.head _)), (fun q h => absurd h List.not_mem_nil)⟩)⟩) ?_
        exact kx _ ka I F jjNW (by omega)
      ·
        refine d_lift (fun k ws X h => z_aload_n X (x := A 179) (show cdA 227 8 = some (.aload_n 0, 1, 0, 0, 0) from rfl) (List.Mem.head _) h) ?_
        refine d_liftS (fun k s X h => s_getR X 179 (show cdA 227 9 = some (.getfield 32, 3, 12, 21, 0) from rfl) (by decide) rfl rfl h) ?_
        refine d_lift (fun k ws X h => z_load_n X (x := ka) (show cdA 227 12 = some (.iload_n 1, 1, 0, 0, 0) from rfl) (List.Mem.tail _ (List.Mem.head _)) h) ?_
        refine d_lift (fun k ws X h => z_const X (show cdA 227 13 = some (.iconst 0, 1, 0, 0, 0) from rfl) h) ?_
        refine d_ast 184 (show cdA 227 14 = some (.iastore, 1, 0, 0, 0) from rfl) (by decide) rfl (by omega) (show ka < 7 by omega) (by decide) (show 161 ∈ _ by decide) (show ((-2147483648) : Int) ≤ 0 ∧ 0 ≤ 2147483647 by omega) ⟨by omega, by omega⟩ ?_
        obtain ⟨s1002, hs1002⟩ : ∃ x0, x0 = uC t 161 (ka).toNat (Int32.ofInt 0) := ⟨_, rfl⟩
        rw [← hs1002]
        have Is1002 : Bd s1002 := by rw [hs1002]; exact bd_C I (show ((-2147483648) : Int) ≤ 0 ∧ 0 ≤ 2147483647 by omega) ⟨by omega, by omega⟩
        have Fs1002 := fm_C (i := (ka).toNat) (x := Int32.ofInt 0) F (show 161 ∈ _ by decide)
        rw [← hs1002] at Fs1002
        have fs1002 : Fm [] [161] t s1002 := by rw [hs1002]; exact fm_C (fm_rf _ _ _) (show 161 ∈ _ by decide)
        have JNW_s1002 : NW s1002 := NW_fm fs1002 (by decide) jjNW
        refine d_lift (fun k ws X h => z_inc X (x := ka) (lv' := [(1, .int (Int32.ofInt (ka + 1))), (0, .ref (A 179))]) (show cdA 227 15 = some (.iinc 1 1, 3, 0, 0, 0) from rfl) (by decide) (List.Mem.tail _ (List.Mem.head _)) (fun _ h => h) h) ?_
        refine d_lift (fun k ws X h => z_goto X (t := 2) (show cdA 227 18 = some (.goto (-16), 3, 0, 0, 0) from rfl) (by decide) h) ?_
        refine d_lvs (lv := [(0, .ref (A 179)), (1, .int (Int32.ofInt (ka + 1)))]) (List.forall_mem_cons.mpr ⟨(List.Mem.tail _ (List.Mem.head _)), (List.forall_mem_cons.mpr ⟨(List.Mem.head _), (fun q h => absurd h List.not_mem_nil)⟩)⟩) ?_
        refine d_mono (T' := TU T 161 (ka + 1)) (fun _ h => h) (TU_s (by omega)) ?_
        exact ih _ (ka + 1) Is1002 Fs1002 JNW_s1002 (by omega) (by omega) kx
  have L177 : ∀ (n : Nat) (t : PS) (a iz ka c b : Int), Bd t → Fm [] [161] s t → NW t → (0 ≤ a ∧ a < iI s 90 ∧ a ≤ 11 ∧ (iz = 0 ∨ iz = 1) ∧ 0 ≤ ka ∧ ka < iC s 202 (a : Int).toNat ∧ ka ≤ 23 ∧ 0 ≤ c ∧ c ≤ 127 ∧ 1 ≤ b ∧ b ≤ 12) → 12 - b ≤ n → (∀ (t' : PS) (b' : Int), Bd t' → Fm [] [161] s t' → NW t' → (0 ≤ a ∧ a < iI s 90 ∧ a ≤ 11 ∧ (iz = 0 ∨ iz = 1) ∧ 0 ≤ ka ∧ ka < iC s 202 (a : Int).toNat ∧ ka ≤ 23 ∧ 0 ≤ c ∧ c ≤ 127 ∧ 1 ≤ b' ∧ b' ≤ 12) → DS l s0 D A dT 227 (rmN 227) [] [161] (TU T 161 7) Q (TU T 161 7) 278 [(0, .ref (A 179)), (1, .int (Int32.ofInt a)), (2, .int (Int32.ofInt iz)), (3, .int (Int32.ofInt ka)), (4, .int (Int32.ofInt c)), (5, .int (Int32.ofInt b'))] [] t') → DS l s0 D A dT 227 (rmN 227) [] [161] (TU T 161 7) Q (TU T 161 7) 177 [(0, .ref (A 179)), (1, .int (Int32.ofInt a)), (2, .int (Int32.ofInt iz)), (3, .int (Int32.ofInt ka)), (4, .int (Int32.ofInt c)), (5, .int (Int32.ofInt b))] [] t := by
    intro n
    induction n with
    | zero =>
      intro t a iz ka c b I F jjNW hi hm kx
      have hta2001 : ∀ a ∈ ([161, 230] : List Nat), ∀ j, j < (bA a).2.2 → (TU T 161 7).2 a j := hta_g hta (by decide)
      refine d_lift (fun k ws X h => z_load X (x := b) (show cdA 227 177 = some (.iload 5, 2, 0, 0, 0) from rfl) (List.Mem.tail _ (List.Mem.tail _ (List.Mem.tail _ (List.Mem.tail _ (List.Mem.tail _ (List.Mem.head _)))))) h) ?_
      refine d_lift (fun k ws X h => z_aload_n X (x := A 179) (show cdA 227 179 = some (.aload_n 0, 1, 0, 0, 0) from rfl) (List.Mem.head _) h) ?_
      refine d_getI 179 (show cdA 227 180 = some (.getfield 233, 3, 12, 22, 0) from rfl) (by decide) rfl rfl (hti 90 (by decide)) ?_
      have b2002 : (0 : Int) ≤ iI t 90 ∧ iI t 90 ≤ 12 := I.1 90
      have q2003 : iI t 90 = iI s 90 := fm_i F (by decide)
      refine d_br (by omega) (by omega) (fun k ws X h1 h2 => z_icmp_ge X (t := 278) (show cdA 227 183 = some (.if_icmp .ge 95, 3, 3, 0, 0) from rfl) (by decide) ⟨by omega, by omega⟩ ⟨by omega, by omega⟩ h1 h2) (fun g2004 => ?_) (fun g2004 => ?_)
      ·
        refine d_lvs (lv := [(0, .ref (A 179)), (1, .int (Int32.ofInt a)), (2, .int (Int32.ofInt iz)), (3, .int (Int32.ofInt ka)), (4, .int (Int32.ofInt c)), (5, .int (Int32.ofInt b))]) (List.forall_mem_cons.mpr ⟨(List.Mem.head _), (List.forall_mem_cons.mpr ⟨(List.Mem.tail _ (List.Mem.head _)), (List.forall_mem_cons.mpr ⟨(List.Mem.tail _ (List.Mem.tail _ (List.Mem.head _))), (List.forall_mem_cons.mpr ⟨(List.Mem.tail _ (List.Mem.tail _ (List.Mem.tail _ (List.Mem.head _)))), (List.forall_mem_cons.mpr ⟨(List.Mem.tail _ (List.Mem.tail _ (List.Mem.tail _ (List.Mem.tail _ (List.Mem.head _))))), (List.forall_mem_cons.mpr ⟨(List.Mem.tail _ (List.Mem.tail _ (List.Mem.tail _ (List.Mem.tail _ (List.Mem.tail _ (List.Mem.head _)))))), (fun q h => absurd h List.not_mem_nil)⟩)⟩)⟩)⟩)⟩)⟩) ?_
        exact kx _ b I F jjNW (by omega)
      ·
        refine d_lift (fun k ws X h => z_aload_n X (x := A 179) (show cdA 227 186 = some (.aload_n 0, 1, 0, 0, 0) from rfl) (List.Mem.head _) h) ?_
        refine d_liftS (fun k s X h => s_getR X 179 (show cdA 227 187 = some (.getfield 76, 3, 12, 37, 0) from rfl) (by decide) rfl rfl h) ?_
        refine d_lift (fun k ws X h => z_load X (x := c) (show cdA 227 190 = some (.iload 4, 2, 0, 0, 0) from rfl) (List.Mem.tail _ (List.Mem.tail _ (List.Mem.tail _ (List.Mem.tail _ (List.Mem.head _))))) h) ?_
        refine d_zald 258 (show cdA 227 192 = some (.baload, 1, 0, 0, 0) from rfl) (by decide) rfl (by omega) (show c < 128 by omega) (by decide) (hta2001 230 (by decide) _ (show (c).toNat < 128 by omega)) ?_
        have b2005 : (0 : Int) ≤ iC t 230 (c).toNat ∧ iC t 230 (c).toNat ≤ 1 := I.2 230 _ (show (c).toNat < 128 by omega)
        have q2006 : iC t 230 (c).toNat = iC s 230 (c).toNat := fm_c F (by decide)
        refine d_br (by omega) (by omega) (fun k ws X h1 h2 => z_if_eq X (t := 278) (show cdA 227 193 = some (.ifCond .eq 85, 3, 0, 0, 0) from rfl) (by decide) ⟨by omega, by omega⟩ h1 h2) (fun g2007 => ?_) (fun g2007 => ?_)
        ·
          refine d_lvs (lv := [(0, .ref (A 179)), (1, .int (Int32.ofInt a)), (2, .int (Int32.ofInt iz)), (3, .int (Int32.ofInt ka)), (4, .int (Int32.ofInt c)), (5, .int (Int32.ofInt b))]) (List.forall_mem_cons.mpr ⟨(List.Mem.head _), (List.forall_mem_cons.mpr ⟨(List.Mem.tail _ (List.Mem.head _)), (List.forall_mem_cons.mpr ⟨(List.Mem.tail _ (List.Mem.tail _ (List.Mem.head _))), (List.forall_mem_cons.mpr ⟨(List.Mem.tail _ (List.Mem.tail _ (List.Mem.tail _ (List.Mem.head _)))), (List.forall_mem_cons.mpr ⟨(List.Mem.tail _ (List.Mem.tail _ (List.Mem.tail _ (List.Mem.tail _ (List.Mem.head _))))), (List.forall_mem_cons.mpr ⟨(List.Mem.tail _ (List.Mem.tail _ (List.Mem.tail _ (List.Mem.tail _ (List.Mem.tail _ (List.Mem.head _)))))), (fun q h => absurd h List.not_mem_nil)⟩)⟩)⟩)⟩)⟩)⟩) ?_
          exact kx _ b I F jjNW (by omega)
        ·
          refine d_lift (fun k ws X h => z_aload_n X (x := A 179) (show cdA 227 196 = some (.aload_n 0, 1, 0, 0, 0) from rfl) (List.Mem.head _) h) ?_
          refine d_liftS (fun k s X h => s_getR X 179 (show cdA 227 197 = some (.getfield 67, 3, 12, 34, 0) from rfl) (by decide) rfl rfl h) ?_
          refine d_lift (fun k ws X h => z_load X (x := b) (show cdA 227 200 = some (.iload 5, 2, 0, 0, 0) from rfl) (List.Mem.tail _ (List.Mem.tail _ (List.Mem.tail _ (List.Mem.tail _ (List.Mem.tail _ (List.Mem.head _)))))) h) ?_
          refine d_liftS (fun k s X h => z_aald X rw_243 (show cdA 227 202 = some (.aaload, 1, 0, 0, 0) from rfl) (by omega) (show b < 12 by omega) (by decide) h) ?_
          refine d_lift (fun k ws X h => z_load X (x := c) (show cdA 227 203 = some (.iload 4, 2, 0, 0, 0) from rfl) (List.Mem.tail _ (List.Mem.tail _ (List.Mem.tail _ (List.Mem.tail _ (List.Mem.head _))))) h) ?_
          refine d_ald2 rw_243 (show cdA 227 205 = some (.iaload, 1, 0, 0, 0) from rfl) (show (b : Int).toNat < 12 by omega) (by omega) (show c < 128 by omega) (by decide) (Or.inr ((htn _ (show (b : Int).toNat < 12 by omega) (show (((b : Int).toNat : Nat) : Int) < iI s 90 by omega)).2.2.1 _ (show (c : Int).toNat < 128 by omega))) ?_
          have b2008 : ((-1) : Int) ≤ (iC t (216 + (b : Int).toNat) (c : Int).toNat) ∧ (iC t (216 + (b : Int).toNat) (c : Int).toNat) ≤ 23 := rw_bd rw_243 I (show (b : Int).toNat < 12 by omega) (show (c : Int).toNat < 128 by omega)
          refine d_lift (fun k ws X h => z_store X (lv' := [(6, .int (Int32.ofInt (iC t (216 + (b : Int).toNat) (c : Int).toNat))), (0, .ref (A 179)), (1, .int (Int32.ofInt a)), (2, .int (Int32.ofInt iz)), (3, .int (Int32.ofInt ka)), (4, .int (Int32.ofInt c)), (5, .int (Int32.ofInt b))]) (show cdA 227 206 = some (.istore 6, 2, 0, 0, 0) from rfl) (by decide) (fun _ h => h) h) ?_
          have q2009 : iC t 202 (b : Int).toNat = iC s 202 (b : Int).toNat := fm_c F (by decide)
          have hw2010 := (jjNW (b : Int).toNat (by omega) (by omega)).2 (c : Int).toNat (by omega)
          have q2011 : iI t 90 = iI s 90 := fm_i F (by decide)
          refine d_lift (fun k ws X h => z_load X (x := (iC t (216 + (b : Int).toNat) (c : Int).toNat)) (show cdA 227 208 = some (.iload 6, 2, 0, 0, 0) from rfl) (List.Mem.head _) h) ?_
          refine d_lift (fun k ws X h => z_const X (show cdA 227 210 = some (.iconst (-1), 1, 0, 0, 0) from rfl) h) ?_
          refine d_br (by omega) (by omega) (fun k ws X h1 h2 => z_icmp_eq X (t := 272) (show cdA 227 211 = some (.if_icmp .eq 61, 3, 0, 0, 0) from rfl) (by decide) ⟨by omega, by omega⟩ ⟨by omega, by omega⟩ h1 h2) (fun g2012 => ?_) (fun g2012 => ?_)
          ·
            refine d_lift (fun k ws X h => z_inc X (x := b) (lv' := [(5, .int (Int32.ofInt (b + 1))), (6, .int (Int32.ofInt (iC t (216 + (b : Int).toNat) (c : Int).toNat))), (0, .ref (A 179)), (1, .int (Int32.ofInt a)), (2, .int (Int32.ofInt iz)), (3, .int (Int32.ofInt ka)), (4, .int (Int32.ofInt c))]) (show cdA 227 272 = some (.iinc 5 1, 3, 0, 0, 0) from rfl) (by decide) (List.Mem.tail _ (List.Mem.tail _ (List.Mem.tail _ (List.Mem.tail _ (List.Mem.tail _ (List.Mem.tail _ (List.Mem.head _))))))) (fun _ h => h) h) ?_
            refine d_lift (fun k ws X h => z_goto X (t := 177) (show cdA 227 275 = some (.goto (-98), 3, 0, 0, 0) from rfl) (by decide) h) ?_
            exfalso
            omega
          ·
            refine d_lift (fun k ws X h => z_aload_n X (x := A 179) (show cdA 227 214 = some (.aload_n 0, 1, 0, 0, 0) from rfl) (List.Mem.tail _ (List.Mem.head _)) h) ?_
            refine d_lift (fun k ws X h => z_load_n X (x := a) (show cdA 227 215 = some (.iload_n 1, 1, 0, 0, 0) from rfl) (List.Mem.tail _ (List.Mem.tail _ (List.Mem.head _))) h) ?_
            refine d_lift (fun k ws X h => z_load_n X (x := ka) (show cdA 227 216 = some (.iload_n 3, 1, 0, 0, 0) from rfl) (List.Mem.tail _ (List.Mem.tail _ (List.Mem.tail _ (List.Mem.tail _ (List.Mem.head _))))) h) ?_
            have q2013 : iC t 202 (a : Int).toNat = iC s 202 (a : Int).toNat := fm_c F (by decide)
            have q2014 : iI t 90 = iI s 90 := fm_i F (by decide)
            refine d_callV 179 (As := [.int (Int32.ofInt a), .int (Int32.ofInt ka)]) (st := []) (show cdA 227 217 = some (.invokevirtual 315, 3, 226, 0, 0) from rfl) rfl (by decide) rfl (d_goes (T := TU T 161 7) G I (by omega) (by omega) (by omega) (fun q h => hti q ((by decide : ∀ q ∈ ([] : List Nat), q ∈ ([90, 89] : List Nat)) q h)) (fun a h => hta2001 a ((by decide : ∀ q ∈ ([] : List Nat), q ∈ ([161, 230] : List Nat)) a h)) (OKN_fm F (by decide) (OKN_mono htn (fun _ _ h => (Or.inr (h)))))) ⟨rfl, rfl⟩ ⟨(show 7 + 1 ≤ 8 by omega), (show 8 + (mNL (miB 226) + 11) + 121 ≤ 143 by simp only [show mNL (miB 226) = 3 from rfl]; omega)⟩ (Nat.le_of_ble_eq_true rfl) (by decide) (by decide) (fun ee s2015 hq => ?_) (fun vv s2015 hq => ?_)
            · obtain ⟨Is2015, Fs2015, e2016, hv, hrs2015, hps2015⟩ := hq; cases hv
            obtain ⟨Is2015, Fs2015, e2016, hv, hrs2015, hps2015⟩ := hq
            cases hv
            have Gs2015 := fm_ts F Fs2015 (by decide) (by decide)
            have JNW_s2015 : NW s2015 := NW_fm Fs2015 (by decide) jjNW
            show DS l s0 D A dT 227 (rmN 227) [] [161] (TU T 161 7) Q (TU T 161 7) 220 [(6, .int (Int32.ofInt (iC t (216 + (b : Int).toNat) (c : Int).toNat))), (0, .ref (A 179)), (1, .int (Int32.ofInt a)), (2, .int (Int32.ofInt iz)), (3, .int (Int32.ofInt ka)), (4, .int (Int32.ofInt c)), (5, .int (Int32.ofInt b))] [.int (Int32.ofInt e2016)] s2015
            refine d_lift (fun k ws X h => z_aload_n X (x := A 179) (show cdA 227 220 = some (.aload_n 0, 1, 0, 0, 0) from rfl) (List.Mem.tail _ (List.Mem.head _)) h) ?_
            refine d_lift (fun k ws X h => z_load X (x := b) (show cdA 227 221 = some (.iload 5, 2, 0, 0, 0) from rfl) (List.Mem.tail _ (List.Mem.tail _ (List.Mem.tail _ (List.Mem.tail _ (List.Mem.tail _ (List.Mem.tail _ (List.Mem.head _))))))) h) ?_
            refine d_lift (fun k ws X h => z_load X (x := (iC t (216 + (b : Int).toNat) (c : Int).toNat)) (show cdA 227 223 = some (.iload 6, 2, 0, 0, 0) from rfl) (List.Mem.head _) h) ?_
            have q2017 : iC s2015 202 (b : Int).toNat = iC s 202 (b : Int).toNat := fm_c Gs2015 (by decide)
            have q2018 : iI s2015 90 = iI s 90 := fm_i Gs2015 (by decide)
            refine d_callV 179 (As := [.int (Int32.ofInt b), .int (Int32.ofInt (iC t (216 + (b : Int).toNat) (c : Int).toNat))]) (st := [.int (Int32.ofInt e2016)]) (show cdA 227 225 = some (.invokevirtual 315, 3, 226, 0, 0) from rfl) rfl (by decide) rfl (d_goes (T := TU T 161 7) G Is2015 (by omega) (by omega) (by omega) (fun q h => hti q ((by decide : ∀ q ∈ ([] : List Nat), q ∈ ([90, 89] : List Nat)) q h)) (fun a h => hta2001 a ((by decide : ∀ q ∈ ([] : List Nat), q ∈ ([161, 230] : List Nat)) a h)) (OKN_fm Gs2015 (by decide) (OKN_mono htn (fun _ _ h => (Or.inr (h)))))) ⟨rfl, rfl⟩ ⟨(show 7 + 1 ≤ 8 by omega), (show 8 + (mNL (miB 226) + 11) + 121 ≤ 143 by simp only [show mNL (miB 226) = 3 from rfl]; omega)⟩ (Nat.le_of_ble_eq_true rfl) (by decide) (by decide) (fun ee s2019 hq => ?_) (fun vv s2019 hq => ?_)
            · obtain ⟨Is2019, Fs2019, e2020, hv, hrs2019, hps2019⟩ := hq; cases hv
            obtain ⟨Is2019, Fs2019, e2020, hv, hrs2019, hps2019⟩ := hq
            cases hv
            have Gs2019 := fm_ts Gs2015 Fs2019 (by decide) (by decide)
            have JNW_s2019 : NW s2019 := NW_fm Fs2019 (by decide) JNW_s2015
            show DS l s0 D A dT 227 (rmN 227) [] [161] (TU T 161 7) Q (TU T 161 7) 228 [(6, .int (Int32.ofInt (iC t (216 + (b : Int).toNat) (c : Int).toNat))), (0, .ref (A 179)), (1, .int (Int32.ofInt a)), (2, .int (Int32.ofInt iz)), (3, .int (Int32.ofInt ka)), (4, .int (Int32.ofInt c)), (5, .int (Int32.ofInt b))] [.int (Int32.ofInt e2020), .int (Int32.ofInt e2016)] s2019
            refine d_br (by omega) (by omega) (fun k ws X h1 h2 => z_icmp_eq X (t := 272) (show cdA 227 228 = some (.if_icmp .eq 44, 3, 0, 0, 0) from rfl) (by decide) ⟨by omega, by omega⟩ ⟨by omega, by omega⟩ h1 h2) (fun g2021 => ?_) (fun g2021 => ?_)
            ·
              refine d_lift (fun k ws X h => z_inc X (x := b) (lv' := [(5, .int (Int32.ofInt (b + 1))), (6, .int (Int32.ofInt (iC t (216 + (b : Int).toNat) (c : Int).toNat))), (0, .ref (A 179)), (1, .int (Int32.ofInt a)), (2, .int (Int32.ofInt iz)), (3, .int (Int32.ofInt ka)), (4, .int (Int32.ofInt c))]) (show cdA 227 272 = some (.iinc 5 1, 3, 0, 0, 0) from rfl) (by decide) (List.Mem.tail _ (List.Mem.tail _ (List.Mem.tail _ (List.Mem.tail _ (List.Mem.tail _ (List.Mem.tail _ (List.Mem.head _))))))) (fun _ h => h) h) ?_
              refine d_lift (fun k ws X h => z_goto X (t := 177) (show cdA 227 275 = some (.goto (-98), 3, 0, 0, 0) from rfl) (by decide) h) ?_
              exfalso
              omega
            ·
              refine d_lift (fun k ws X h => z_aload_n X (x := A 179) (show cdA 227 231 = some (.aload_n 0, 1, 0, 0, 0) from rfl) (List.Mem.tail _ (List.Mem.head _)) h) ?_
              refine d_liftS (fun k s X h => s_getR X 179 (show cdA 227 232 = some (.getfield 32, 3, 12, 21, 0) from rfl) (by decide) rfl rfl h) ?_
              refine d_lift (fun k ws X h => z_const X (show cdA 227 235 = some (.iconst 1, 1, 0, 0, 0) from rfl) h) ?_
              refine d_lift (fun k ws X h => w_dup2_11 X.1 (ax_d X (show cdA 227 236 = some (.dup2, 1, 0, 0, 0) from rfl)) rfl rfl h) ?_
              refine d_ald 184 (show cdA 227 237 = some (.iaload, 1, 0, 0, 0) from rfl) (by decide) rfl (by omega) (show 1 < 7 by omega) (by decide) (hta2001 161 (by decide) _ (show (1 : Int).toNat < 7 by omega)) ?_
              have b2022 : ((-2147483648) : Int) ≤ iC s2019 161 (1 : Int).toNat ∧ iC s2019 161 (1 : Int).toNat ≤ 2147483647 := Is2019.2 161 _ (show (1 : Int).toNat < 7 by omega)
              refine d_lift (fun k ws X h => z_aload_n X (x := A 179) (show cdA 227 238 = some (.aload_n 0, 1, 0, 0, 0) from rfl) (List.Mem.tail _ (List.Mem.head _)) h) ?_
              refine d_liftS (fun k s X h => s_getR X 179 (show cdA 227 239 = some (.getfield 61, 3, 12, 32, 0) from rfl) (by decide) rfl rfl h) ?_
              refine d_lift (fun k ws X h => z_load_n X (x := a) (show cdA 227 242 = some (.iload_n 1, 1, 0, 0, 0) from rfl) (List.Mem.tail _ (List.Mem.tail _ (List.Mem.head _))) h) ?_
              refine d_ald 229 (show cdA 227 243 = some (.iaload, 1, 0, 0, 0) from rfl) (by decide) rfl (by omega) (show a < 12 by omega) (by decide) (Or.inr ((htn _ (show (a : Int).toNat < 12 by omega) (show (((a : Int).toNat : Nat) : Int) < iI s 90 by omega)).2.1)) ?_
              have b2023 : (0 : Int) ≤ iC s2019 203 (a).toNat ∧ iC s2019 203 (a).toNat ≤ 50 := Is2019.2 203 _ (show (a).toNat < 12 by omega)
              have q2024 : iC s2019 203 (a).toNat = iC s 203 (a).toNat := fm_c Gs2019 (by decide)
              refine d_lift (fun k ws X h => z_aload_n X (x := A 179) (show cdA 227 244 = some (.aload_n 0, 1, 0, 0, 0) from rfl) (List.Mem.tail _ (List.Mem.head _)) h) ?_
              refine d_liftS (fun k s X h => s_getR X 179 (show cdA 227 245 = some (.getfield 61, 3, 12, 32, 0) from rfl) (by decide) rfl rfl h) ?_
              refine d_lift (fun k ws X h => z_load X (x := b) (show cdA 227 248 = some (.iload 5, 2, 0, 0, 0) from rfl) (List.Mem.tail _ (List.Mem.tail _ (List.Mem.tail _ (List.Mem.tail _ (List.Mem.tail _ (List.Mem.tail _ (List.Mem.head _))))))) h) ?_
              refine d_ald 229 (show cdA 227 250 = some (.iaload, 1, 0, 0, 0) from rfl) (by decide) rfl (by omega) (show b < 12 by omega) (by decide) (Or.inr ((htn _ (show (b : Int).toNat < 12 by omega) (show (((b : Int).toNat : Nat) : Int) < iI s 90 by omega)).2.1)) ?_
              have b2025 : (0 : Int) ≤ iC s2019 203 (b).toNat ∧ iC s2019 203 (b).toNat ≤ 50 := Is2019.2 203 _ (show (b).toNat < 12 by omega)
              have q2026 : iC s2019 203 (b).toNat = iC s 203 (b).toNat := fm_c Gs2019 (by decide)
              refine d_br (by omega) (by omega) (fun k ws X h1 h2 => z_icmp_ge X (t := 263) (show cdA 227 251 = some (.if_icmp .ge 12, 3, 3, 0, 0) from rfl) (by decide) ⟨by omega, by omega⟩ ⟨by omega, by omega⟩ h1 h2) (fun g2027 => ?_) (fun g2027 => ?_)
              ·
                refine d_lift (fun k ws X h => z_aload_n X (x := A 179) (show cdA 227 263 = some (.aload_n 0, 1, 0, 0, 0) from rfl) (List.Mem.tail _ (List.Mem.head _)) h) ?_
                refine d_liftS (fun k s X h => s_getR X 179 (show cdA 227 264 = some (.getfield 61, 3, 12, 32, 0) from rfl) (by decide) rfl rfl h) ?_
                refine d_lift (fun k ws X h => z_load X (x := b) (show cdA 227 267 = some (.iload 5, 2, 0, 0, 0) from rfl) (List.Mem.tail _ (List.Mem.tail _ (List.Mem.tail _ (List.Mem.tail _ (List.Mem.tail _ (List.Mem.tail _ (List.Mem.head _))))))) h) ?_
                refine d_ald 229 (show cdA 227 269 = some (.iaload, 1, 0, 0, 0) from rfl) (by decide) rfl (by omega) (show b < 12 by omega) (by decide) (Or.inr ((htn _ (show (b : Int).toNat < 12 by omega) (show (((b : Int).toNat : Nat) : Int) < iI s 90 by omega)).2.1)) ?_
                have b2028 : (0 : Int) ≤ iC s2019 203 (b).toNat ∧ iC s2019 203 (b).toNat ≤ 50 := Is2019.2 203 _ (show (b).toNat < 12 by omega)
                have q2029 : iC s2019 203 (b).toNat = iC s 203 (b).toNat := fm_c Gs2019 (by decide)
                refine d_lift (fun k ws X h => z_add X (show cdA 227 270 = some (.iadd, 1, 0, 0, 0) from rfl) h) ?_
                refine d_any (fun y2030 hy2030 => ?_)
                refine d_ast 184 (show cdA 227 271 = some (.iastore, 1, 0, 0, 0) from rfl) (by decide) rfl (by omega) (show 1 < 7 by omega) (by decide) (show 161 ∈ _ by decide) (show ((-2147483648) : Int) ≤ y2030 ∧ y2030 ≤ 2147483647 by omega) ⟨by omega, by omega⟩ ?_
                refine d_mono (T' := TU T 161 7) (fun _ h => h) (fun _ _ h => Or.inr h) ?_
                obtain ⟨s2031, hs2031⟩ : ∃ x0, x0 = uC s2019 161 (1 : Int).toNat (Int32.ofInt y2030) := ⟨_, rfl⟩
                rw [← hs2031]
                have Is2031 : Bd s2031 := by rw [hs2031]; exact bd_C Is2019 (show ((-2147483648) : Int) ≤ y2030 ∧ y2030 ≤ 2147483647 by omega) ⟨by omega, by omega⟩
                have Fs2031 := fm_C (i := (1 : Int).toNat) (x := Int32.ofInt y2030) Gs2019 (show 161 ∈ _ by decide)
                rw [← hs2031] at Fs2031
                have fs2031 : Fm [] [161] s2019 s2031 := by rw [hs2031]; exact fm_C (fm_rf _ _ _) (show 161 ∈ _ by decide)
                have JNW_s2031 : NW s2031 := NW_fm fs2031 (by decide) JNW_s2019
                refine d_lift (fun k ws X h => z_inc X (x := b) (lv' := [(5, .int (Int32.ofInt (b + 1))), (6, .int (Int32.ofInt (iC t (216 + (b : Int).toNat) (c : Int).toNat))), (0, .ref (A 179)), (1, .int (Int32.ofInt a)), (2, .int (Int32.ofInt iz)), (3, .int (Int32.ofInt ka)), (4, .int (Int32.ofInt c))]) (show cdA 227 272 = some (.iinc 5 1, 3, 0, 0, 0) from rfl) (by decide) (List.Mem.tail _ (List.Mem.tail _ (List.Mem.tail _ (List.Mem.tail _ (List.Mem.tail _ (List.Mem.tail _ (List.Mem.head _))))))) (fun _ h => h) h) ?_
                refine d_lift (fun k ws X h => z_goto X (t := 177) (show cdA 227 275 = some (.goto (-98), 3, 0, 0, 0) from rfl) (by decide) h) ?_
                exfalso
                omega
              ·
                refine d_lift (fun k ws X h => z_aload_n X (x := A 179) (show cdA 227 254 = some (.aload_n 0, 1, 0, 0, 0) from rfl) (List.Mem.tail _ (List.Mem.head _)) h) ?_
                refine d_liftS (fun k s X h => s_getR X 179 (show cdA 227 255 = some (.getfield 61, 3, 12, 32, 0) from rfl) (by decide) rfl rfl h) ?_
                refine d_lift (fun k ws X h => z_load_n X (x := a) (show cdA 227 258 = some (.iload_n 1, 1, 0, 0, 0) from rfl) (List.Mem.tail _ (List.Mem.tail _ (List.Mem.head _))) h) ?_
                refine d_ald 229 (show cdA 227 259 = some (.iaload, 1, 0, 0, 0) from rfl) (by decide) rfl (by omega) (show a < 12 by omega) (by decide) (Or.inr ((htn _ (show (a : Int).toNat < 12 by omega) (show (((a : Int).toNat : Nat) : Int) < iI s 90 by omega)).2.1)) ?_
                have b2032 : (0 : Int) ≤ iC s2019 203 (a).toNat ∧ iC s2019 203 (a).toNat ≤ 50 := Is2019.2 203 _ (show (a).toNat < 12 by omega)
                have q2033 : iC s2019 203 (a).toNat = iC s 203 (a).toNat := fm_c Gs2019 (by decide)
                refine d_lift (fun k ws X h => z_goto X (t := 270) (show cdA 227 260 = some (.goto 10, 3, 0, 0, 0) from rfl) (by decide) h) ?_
                refine d_lift (fun k ws X h => z_add X (show cdA 227 270 = some (.iadd, 1, 0, 0, 0) from rfl) h) ?_
                refine d_any (fun y2034 hy2034 => ?_)
                refine d_ast 184 (show cdA 227 271 = some (.iastore, 1, 0, 0, 0) from rfl) (by decide) rfl (by omega) (show 1 < 7 by omega) (by decide) (show 161 ∈ _ by decide) (show ((-2147483648) : Int) ≤ y2034 ∧ y2034 ≤ 2147483647 by omega) ⟨by omega, by omega⟩ ?_
                refine d_mono (T' := TU T 161 7) (fun _ h => h) (fun _ _ h => Or.inr h) ?_
                obtain ⟨s2035, hs2035⟩ : ∃ x0, x0 = uC s2019 161 (1 : Int).toNat (Int32.ofInt y2034) := ⟨_, rfl⟩
                rw [← hs2035]
                have Is2035 : Bd s2035 := by rw [hs2035]; exact bd_C Is2019 (show ((-2147483648) : Int) ≤ y2034 ∧ y2034 ≤ 2147483647 by omega) ⟨by omega, by omega⟩
                have Fs2035 := fm_C (i := (1 : Int).toNat) (x := Int32.ofInt y2034) Gs2019 (show 161 ∈ _ by decide)
                rw [← hs2035] at Fs2035
                have fs2035 : Fm [] [161] s2019 s2035 := by rw [hs2035]; exact fm_C (fm_rf _ _ _) (show 161 ∈ _ by decide)
                have JNW_s2035 : NW s2035 := NW_fm fs2035 (by decide) JNW_s2019
                refine d_lift (fun k ws X h => z_inc X (x := b) (lv' := [(5, .int (Int32.ofInt (b + 1))), (6, .int (Int32.ofInt (iC t (216 + (b : Int).toNat) (c : Int).toNat))), (0, .ref (A 179)), (1, .int (Int32.ofInt a)), (2, .int (Int32.ofInt iz)), (3, .int (Int32.ofInt ka)), (4, .int (Int32.ofInt c))]) (show cdA 227 272 = some (.iinc 5 1, 3, 0, 0, 0) from rfl) (by decide) (List.Mem.tail _ (List.Mem.tail _ (List.Mem.tail _ (List.Mem.tail _ (List.Mem.tail _ (List.Mem.tail _ (List.Mem.head _))))))) (fun _ h => h) h) ?_
                refine d_lift (fun k ws X h => z_goto X (t := 177) (show cdA 227 275 = some (.goto (-98), 3, 0, 0, 0) from rfl) (by decide) h) ?_
                exfalso
                omega
    | succ n ih =>
      intro t a iz ka c b I F jjNW hi hm kx
      have hta2001 : ∀ a ∈ ([161, 230] : List Nat), ∀ j, j < (bA a).2.2 → (TU T 161 7).2 a j := hta_g hta (by decide)
      refine d_lift (fun k ws X h => z_load X (x := b) (show cdA 227 177 = some (.iload 5, 2, 0, 0, 0) from rfl) (List.Mem.tail _ (List.Mem.tail _ (List.Mem.tail _ (List.Mem.tail _ (List.Mem.tail _ (List.Mem.head _)))))) h) ?_
      refine d_lift (fun k ws X h => z_aload_n X (x := A 179) (show cdA 227 179 = some (.aload_n 0, 1, 0, 0, 0) from rfl) (List.Mem.head _) h) ?_
      refine d_getI 179 (show cdA 227 180 = some (.getfield 233, 3, 12, 22, 0) from rfl) (by decide) rfl rfl (hti 90 (by decide)) ?_
      have b2002 : (0 : Int) ≤ iI t 90 ∧ iI t 90 ≤ 12 := I.1 90
      have q2003 : iI t 90 = iI s 90 := fm_i F (by decide)
      refine d_br (by omega) (by omega) (fun k ws X h1 h2 => z_icmp_ge X (t := 278) (show cdA 227 183 = some (.if_icmp .ge 95, 3, 3, 0, 0) from rfl) (by decide) ⟨by omega, by omega⟩ ⟨by omega, by omega⟩ h1 h2) (fun g2004 => ?_) (fun g2004 => ?_)
      ·
        refine d_lvs (lv := [(0, .ref (A 179)), (1, .int (Int32.ofInt a)), (2, .int (Int32.ofInt iz)), (3, .int (Int32.ofInt ka)), (4, .int (Int32.ofInt c)), (5, .int (Int32.ofInt b))]) (List.forall_mem_cons.mpr ⟨(List.Mem.head _), (List.forall_mem_cons.mpr ⟨(List.Mem.tail _ (List.Mem.head _)), (List.forall_mem_cons.mpr ⟨(List.Mem.tail _ (List.Mem.tail _ (List.Mem.head _))), (List.forall_mem_cons.mpr ⟨(List.Mem.tail _ (List.Mem.tail _ (List.Mem.tail _ (List.Mem.head _)))), (List.forall_mem_cons.mpr ⟨(List.Mem.tail _ (List.Mem.tail _ (List.Mem.tail _ (List.Mem.tail _ (List.Mem.head _))))), (List.forall_mem_cons.mpr ⟨(List.Mem.tail _ (List.Mem.tail _ (List.Mem.tail _ (List.Mem.tail _ (List.Mem.tail _ (List.Mem.head _)))))), (fun q h => absurd h List.not_mem_nil)⟩)⟩)⟩)⟩)⟩)⟩) ?_
        exact kx _ b I F jjNW (by omega)
      ·
        refine d_lift (fun k ws X h => z_aload_n X (x := A 179) (show cdA 227 186 = some (.aload_n 0, 1, 0, 0, 0) from rfl) (List.Mem.head _) h) ?_
        refine d_liftS (fun k s X h => s_getR X 179 (show cdA 227 187 = some (.getfield 76, 3, 12, 37, 0) from rfl) (by decide) rfl rfl h) ?_
        refine d_lift (fun k ws X h => z_load X (x := c) (show cdA 227 190 = some (.iload 4, 2, 0, 0, 0) from rfl) (List.Mem.tail _ (List.Mem.tail _ (List.Mem.tail _ (List.Mem.tail _ (List.Mem.head _))))) h) ?_
        refine d_zald 258 (show cdA 227 192 = some (.baload, 1, 0, 0, 0) from rfl) (by decide) rfl (by omega) (show c < 128 by omega) (by decide) (hta2001 230 (by decide) _ (show (c).toNat < 128 by omega)) ?_
        have b2005 : (0 : Int) ≤ iC t 230 (c).toNat ∧ iC t 230 (c).toNat ≤ 1 := I.2 230 _ (show (c).toNat < 128 by omega)
        have q2006 : iC t 230 (c).toNat = iC s 230 (c).toNat := fm_c F (by decide)
        refine d_br (by omega) (by omega) (fun k ws X h1 h2 => z_if_eq X (t := 278) (show cdA 227 193 = some (.ifCond .eq 85, 3, 0, 0, 0) from rfl) (by decide) ⟨by omega, by omega⟩ h1 h2) (fun g2007 => ?_) (fun g2007 => ?_)
        ·
          refine d_lvs (lv := [(0, .ref (A 179)), (1, .int (Int32.ofInt a)), (2, .int (Int32.ofInt iz)), (3, .int (Int32.ofInt ka)), (4, .int (Int32.ofInt c)), (5, .int (Int32.ofInt b))]) (List.forall_mem_cons.mpr ⟨(List.Mem.head _), (List.forall_mem_cons.mpr ⟨(List.Mem.tail _ (List.Mem.head _)), (List.forall_mem_cons.mpr ⟨(List.Mem.tail _ (List.Mem.tail _ (List.Mem.head _))), (List.forall_mem_cons.mpr ⟨(List.Mem.tail _ (List.Mem.tail _ (List.Mem.tail _ (List.Mem.head _)))), (List.forall_mem_cons.mpr ⟨(List.Mem.tail _ (List.Mem.tail _ (List.Mem.tail _ (List.Mem.tail _ (List.Mem.head _))))), (List.forall_mem_cons.mpr ⟨(List.Mem.tail _ (List.Mem.tail _ (List.Mem.tail _ (List.Mem.tail _ (List.Mem.tail _ (List.Mem.head _)))))), (fun q h => absurd h List.not_mem_nil)⟩)⟩)⟩)⟩)⟩)⟩) ?_
          exact kx _ b I F jjNW (by omega)
        ·
          refine d_lift (fun k ws X h => z_aload_n X (x := A 179) (show cdA 227 196 = some (.aload_n 0, 1, 0, 0, 0) from rfl) (List.Mem.head _) h) ?_
          refine d_liftS (fun k s X h => s_getR X 179 (show cdA 227 197 = some (.getfield 67, 3, 12, 34, 0) from rfl) (by decide) rfl rfl h) ?_
          refine d_lift (fun k ws X h => z_load X (x := b) (show cdA 227 200 = some (.iload 5, 2, 0, 0, 0) from rfl) (List.Mem.tail _ (List.Mem.tail _ (List.Mem.tail _ (List.Mem.tail _ (List.Mem.tail _ (List.Mem.head _)))))) h) ?_
          refine d_liftS (fun k s X h => z_aald X rw_243 (show cdA 227 202 = some (.aaload, 1, 0, 0, 0) from rfl) (by omega) (show b < 12 by omega) (by decide) h) ?_
          refine d_lift (fun k ws X h => z_load X (x := c) (show cdA 227 203 = some (.iload 4, 2, 0, 0, 0) from rfl) (List.Mem.tail _ (List.Mem.tail _ (List.Mem.tail _ (List.Mem.tail _ (List.Mem.head _))))) h) ?_
          refine d_ald2 rw_243 (show cdA 227 205 = some (.iaload, 1, 0, 0, 0) from rfl) (show (b : Int).toNat < 12 by omega) (by omega) (show c < 128 by omega) (by decide) (Or.inr ((htn _ (show (b : Int).toNat < 12 by omega) (show (((b : Int).toNat : Nat) : Int) < iI s 90 by omega)).2.2.1 _ (show (c : Int).toNat < 128 by omega))) ?_
          have b2008 : ((-1) : Int) ≤ (iC t (216 + (b : Int).toNat) (c : Int).toNat) ∧ (iC t (216 + (b : Int).toNat) (c : Int).toNat) ≤ 23 := rw_bd rw_243 I (show (b : Int).toNat < 12 by omega) (show (c : Int).toNat < 128 by omega)
          refine d_lift (fun k ws X h => z_store X (lv' := [(6, .int (Int32.ofInt (iC t (216 + (b : Int).toNat) (c : Int).toNat))), (0, .ref (A 179)), (1, .int (Int32.ofInt a)), (2, .int (Int32.ofInt iz)), (3, .int (Int32.ofInt ka)), (4, .int (Int32.ofInt c)), (5, .int (Int32.ofInt b))]) (show cdA 227 206 = some (.istore 6, 2, 0, 0, 0) from rfl) (by decide) (fun _ h => h) h) ?_
          have q2009 : iC t 202 (b : Int).toNat = iC s 202 (b : Int).toNat := fm_c F (by decide)
          have hw2010 := (jjNW (b : Int).toNat (by omega) (by omega)).2 (c : Int).toNat (by omega)
          have q2011 : iI t 90 = iI s 90 := fm_i F (by decide)
          refine d_lift (fun k ws X h => z_load X (x := (iC t (216 + (b : Int).toNat) (c : Int).toNat)) (show cdA 227 208 = some (.iload 6, 2, 0, 0, 0) from rfl) (List.Mem.head _) h) ?_
          refine d_lift (fun k ws X h => z_const X (show cdA 227 210 = some (.iconst (-1), 1, 0, 0, 0) from rfl) h) ?_
          refine d_br (by omega) (by omega) (fun k ws X h1 h2 => z_icmp_eq X (t := 272) (show cdA 227 211 = some (.if_icmp .eq 61, 3, 0, 0, 0) from rfl) (by decide) ⟨by omega, by omega⟩ ⟨by omega, by omega⟩ h1 h2) (fun g2012 => ?_) (fun g2012 => ?_)
          ·
            refine d_lift (fun k ws X h => z_inc X (x := b) (lv' := [(5, .int (Int32.ofInt (b + 1))), (6, .int (Int32.ofInt (iC t (216 + (b : Int).toNat) (c : Int).toNat))), (0, .ref (A 179)), (1, .int (Int32.ofInt a)), (2, .int (Int32.ofInt iz)), (3, .int (Int32.ofInt ka)), (4, .int (Int32.ofInt c))]) (show cdA 227 272 = some (.iinc 5 1, 3, 0, 0, 0) from rfl) (by decide) (List.Mem.tail _ (List.Mem.tail _ (List.Mem.tail _ (List.Mem.tail _ (List.Mem.tail _ (List.Mem.tail _ (List.Mem.head _))))))) (fun _ h => h) h) ?_
            refine d_lift (fun k ws X h => z_goto X (t := 177) (show cdA 227 275 = some (.goto (-98), 3, 0, 0, 0) from rfl) (by decide) h) ?_
            refine d_lvs (lv := [(0, .ref (A 179)), (1, .int (Int32.ofInt a)), (2, .int (Int32.ofInt iz)), (3, .int (Int32.ofInt ka)), (4, .int (Int32.ofInt c)), (5, .int (Int32.ofInt (b + 1)))]) (List.forall_mem_cons.mpr ⟨(List.Mem.tail _ (List.Mem.tail _ (List.Mem.head _))), (List.forall_mem_cons.mpr ⟨(List.Mem.tail _ (List.Mem.tail _ (List.Mem.tail _ (List.Mem.head _)))), (List.forall_mem_cons.mpr ⟨(List.Mem.tail _ (List.Mem.tail _ (List.Mem.tail _ (List.Mem.tail _ (List.Mem.head _))))), (List.forall_mem_cons.mpr ⟨(List.Mem.tail _ (List.Mem.tail _ (List.Mem.tail _ (List.Mem.tail _ (List.Mem.tail _ (List.Mem.head _)))))), (List.forall_mem_cons.mpr ⟨(List.Mem.tail _ (List.Mem.tail _ (List.Mem.tail _ (List.Mem.tail _ (List.Mem.tail _ (List.Mem.tail _ (List.Mem.head _))))))), (List.forall_mem_cons.mpr ⟨(List.Mem.head _), (fun q h => absurd h List.not_mem_nil)⟩)⟩)⟩)⟩)⟩)⟩) ?_
            exact ih _ a iz ka c (b + 1) I F jjNW (by omega) (by omega) kx
          ·
            refine d_lift (fun k ws X h => z_aload_n X (x := A 179) (show cdA 227 214 = some (.aload_n 0, 1, 0, 0, 0) from rfl) (List.Mem.tail _ (List.Mem.head _)) h) ?_
            refine d_lift (fun k ws X h => z_load_n X (x := a) (show cdA 227 215 = some (.iload_n 1, 1, 0, 0, 0) from rfl) (List.Mem.tail _ (List.Mem.tail _ (List.Mem.head _))) h) ?_
            refine d_lift (fun k ws X h => z_load_n X (x := ka) (show cdA 227 216 = some (.iload_n 3, 1, 0, 0, 0) from rfl) (List.Mem.tail _ (List.Mem.tail _ (List.Mem.tail _ (List.Mem.tail _ (List.Mem.head _))))) h) ?_
            have q2013 : iC t 202 (a : Int).toNat = iC s 202 (a : Int).toNat := fm_c F (by decide)
            have q2014 : iI t 90 = iI s 90 := fm_i F (by decide)
            refine d_callV 179 (As := [.int (Int32.ofInt a), .int (Int32.ofInt ka)]) (st := []) (show cdA 227 217 = some (.invokevirtual 315, 3, 226, 0, 0) from rfl) rfl (by decide) rfl (d_goes (T := TU T 161 7) G I (by omega) (by omega) (by omega) (fun q h => hti q ((by decide : ∀ q ∈ ([] : List Nat), q ∈ ([90, 89] : List Nat)) q h)) (fun a h => hta2001 a ((by decide : ∀ q ∈ ([] : List Nat), q ∈ ([161, 230] : List Nat)) a h)) (OKN_fm F (by decide) (OKN_mono htn (fun _ _ h => (Or.inr (h)))))) ⟨rfl, rfl⟩ ⟨(show 7 + 1 ≤ 8 by omega), (show 8 + (mNL (miB 226) + 11) + 121 ≤ 143 by simp only [show mNL (miB 226) = 3 from rfl]; omega)⟩ (Nat.le_of_ble_eq_true rfl) (by decide) (by decide) (fun ee s2015 hq => ?_) (fun vv s2015 hq => ?_)
            · obtain ⟨Is2015, Fs2015, e2016, hv, hrs2015, hps2015⟩ := hq; cases hv
            obtain ⟨Is2015, Fs2015, e2016, hv, hrs2015, hps2015⟩ := hq
            cases hv
            have Gs2015 := fm_ts F Fs2015 (by decide) (by decide)
            have JNW_s2015 : NW s2015 := NW_fm Fs2015 (by decide) jjNW
            show DS l s0 D A dT 227 (rmN 227) [] [161] (TU T 161 7) Q (TU T 161 7) 220 [(6, .int (Int32.ofInt (iC t (216 + (b : Int).toNat) (c : Int).toNat))), (0, .ref (A 179)), (1, .int (Int32.ofInt a)), (2, .int (Int32.ofInt iz)), (3, .int (Int32.ofInt ka)), (4, .int (Int32.ofInt c)), (5, .int (Int32.ofInt b))] [.int (Int32.ofInt e2016)] s2015
            refine d_lift (fun k ws X h => z_aload_n X (x := A 179) (show cdA 227 220 = some (.aload_n 0, 1, 0, 0, 0) from rfl) (List.Mem.tail _ (List.Mem.head _)) h) ?_
            refine d_lift (fun k ws X h => z_load X (x := b) (show cdA 227 221 = some (.iload 5, 2, 0, 0, 0) from rfl) (List.Mem.tail _ (List.Mem.tail _ (List.Mem.tail _ (List.Mem.tail _ (List.Mem.tail _ (List.Mem.tail _ (List.Mem.head _))))))) h) ?_
            refine d_lift (fun k ws X h => z_load X (x := (iC t (216 + (b : Int).toNat) (c : Int).toNat)) (show cdA 227 223 = some (.iload 6, 2, 0, 0, 0) from rfl) (List.Mem.head _) h) ?_
            have q2017 : iC s2015 202 (b : Int).toNat = iC s 202 (b : Int).toNat := fm_c Gs2015 (by decide)
            have q2018 : iI s2015 90 = iI s 90 := fm_i Gs2015 (by decide)
            refine d_callV 179 (As := [.int (Int32.ofInt b), .int (Int32.ofInt (iC t (216 + (b : Int).toNat) (c : Int).toNat))]) (st := [.int (Int32.ofInt e2016)]) (show cdA 227 225 = some (.invokevirtual 315, 3, 226, 0, 0) from rfl) rfl (by decide) rfl (d_goes (T := TU T 161 7) G Is2015 (by omega) (by omega) (by omega) (fun q h => hti q ((by decide : ∀ q ∈ ([] : List Nat), q ∈ ([90, 89] : List Nat)) q h)) (fun a h => hta2001 a ((by decide : ∀ q ∈ ([] : List Nat), q ∈ ([161, 230] : List Nat)) a h)) (OKN_fm Gs2015 (by decide) (OKN_mono htn (fun _ _ h => (Or.inr (h)))))) ⟨rfl, rfl⟩ ⟨(show 7 + 1 ≤ 8 by omega), (show 8 + (mNL (miB 226) + 11) + 121 ≤ 143 by simp only [show mNL (miB 226) = 3 from rfl]; omega)⟩ (Nat.le_of_ble_eq_true rfl) (by decide) (by decide) (fun ee s2019 hq => ?_) (fun vv s2019 hq => ?_)
            · obtain ⟨Is2019, Fs2019, e2020, hv, hrs2019, hps2019⟩ := hq; cases hv
            obtain ⟨Is2019, Fs2019, e2020, hv, hrs2019, hps2019⟩ := hq
            cases hv
            have Gs2019 := fm_ts Gs2015 Fs2019 (by decide) (by decide)
            have JNW_s2019 : NW s2019 := NW_fm Fs2019 (by decide) JNW_s2015
            show DS l s0 D A dT 227 (rmN 227) [] [161] (TU T 161 7) Q (TU T 161 7) 228 [(6, .int (Int32.ofInt (iC t (216 + (b : Int).toNat) (c : Int).toNat))), (0, .ref (A 179)), (1, .int (Int32.ofInt a)), (2, .int (Int32.ofInt iz)), (3, .int (Int32.ofInt ka)), (4, .int (Int32.ofInt c)), (5, .int (Int32.ofInt b))] [.int (Int32.ofInt e2020), .int (Int32.ofInt e2016)] s2019
            refine d_br (by omega) (by omega) (fun k ws X h1 h2 => z_icmp_eq X (t := 272) (show cdA 227 228 = some (.if_icmp .eq 44, 3, 0, 0, 0) from rfl) (by decide) ⟨by omega, by omega⟩ ⟨by omega, by omega⟩ h1 h2) (fun g2021 => ?_) (fun g2021 => ?_)
            ·
              refine d_lift (fun k ws X h => z_inc X (x := b) (lv' := [(5, .int (Int32.ofInt (b + 1))), (6, .int (Int32.ofInt (iC t (216 + (b : Int).toNat) (c : Int).toNat))), (0, .ref (A 179)), (1, .int (Int32.ofInt a)), (2, .int (Int32.ofInt iz)), (3, .int (Int32.ofInt ka)), (4, .int (Int32.ofInt c))]) (show cdA 227 272 = some (.iinc 5 1, 3, 0, 0, 0) from rfl) (by decide) (List.Mem.tail _ (List.Mem.tail _ (List.Mem.tail _ (List.Mem.tail _ (List.Mem.tail _ (List.Mem.tail _ (List.Mem.head _))))))) (fun _ h => h) h) ?_
              refine d_lift (fun k ws X h => z_goto X (t := 177) (show cdA 227 275 = some (.goto (-98), 3, 0, 0, 0) from rfl) (by decide) h) ?_
              refine d_lvs (lv := [(0, .ref (A 179)), (1, .int (Int32.ofInt a)), (2, .int (Int32.ofInt iz)), (3, .int (Int32.ofInt ka)), (4, .int (Int32.ofInt c)), (5, .int (Int32.ofInt (b + 1)))]) (List.forall_mem_cons.mpr ⟨(List.Mem.tail _ (List.Mem.tail _ (List.Mem.head _))), (List.forall_mem_cons.mpr ⟨(List.Mem.tail _ (List.Mem.tail _ (List.Mem.tail _ (List.Mem.head _)))), (List.forall_mem_cons.mpr ⟨(List.Mem.tail _ (List.Mem.tail _ (List.Mem.tail _ (List.Mem.tail _ (List.Mem.head _))))), (List.forall_mem_cons.mpr ⟨(List.Mem.tail _ (List.Mem.tail _ (List.Mem.tail _ (List.Mem.tail _ (List.Mem.tail _ (List.Mem.head _)))))), (List.forall_mem_cons.mpr ⟨(List.Mem.tail _ (List.Mem.tail _ (List.Mem.tail _ (List.Mem.tail _ (List.Mem.tail _ (List.Mem.tail _ (List.Mem.head _))))))), (List.forall_mem_cons.mpr ⟨(List.Mem.head _), (fun q h => absurd h List.not_mem_nil)⟩)⟩)⟩)⟩)⟩)⟩) ?_
              exact ih _ a iz ka c (b + 1) Is2019 Gs2019 JNW_s2019 (by omega) (by omega) kx
            ·
              refine d_lift (fun k ws X h => z_aload_n X (x := A 179) (show cdA 227 231 = some (.aload_n 0, 1, 0, 0, 0) from rfl) (List.Mem.tail _ (List.Mem.head _)) h) ?_
              refine d_liftS (fun k s X h => s_getR X 179 (show cdA 227 232 = some (.getfield 32, 3, 12, 21, 0) from rfl) (by decide) rfl rfl h) ?_
              refine d_lift (fun k ws X h => z_const X (show cdA 227 235 = some (.iconst 1, 1, 0, 0, 0) from rfl) h) ?_
              refine d_lift (fun k ws X h => w_dup2_11 X.1 (ax_d X (show cdA 227 236 = some (.dup2, 1, 0, 0, 0) from rfl)) rfl rfl h) ?_
              refine d_ald 184 (show cdA 227 237 = some (.iaload, 1, 0, 0, 0) from rfl) (by decide) rfl (by omega) (show 1 < 7 by omega) (by decide) (hta2001 161 (by decide) _ (show (1 : Int).toNat < 7 by omega)) ?_
              have b2022 : ((-2147483648) : Int) ≤ iC s2019 161 (1 : Int).toNat ∧ iC s2019 161 (1 : Int).toNat ≤ 2147483647 := Is2019.2 161 _ (show (1 : Int).toNat < 7 by omega)
              refine d_lift (fun k ws X h => z_aload_n X (x := A 179) (show cdA 227 238 = some (.aload_n 0, 1, 0, 0, 0) from rfl) (List.Mem.tail _ (List.Mem.head _)) h) ?_
              refine d_liftS (fun k s X h => s_getR X 179 (show cdA 227 239 = some (.getfield 61, 3, 12, 32, 0) from rfl) (by decide) rfl rfl h) ?_
              refine d_lift (fun k ws X h => z_load_n X (x := a) (show cdA 227 242 = some (.iload_n 1, 1, 0, 0, 0) from rfl) (List.Mem.tail _ (List.Mem.tail _ (List.Mem.head _))) h) ?_
              refine d_ald 229 (show cdA 227 243 = some (.iaload, 1, 0, 0, 0) from rfl) (by decide) rfl (by omega) (show a < 12 by omega) (by decide) (Or.inr ((htn _ (show (a : Int).toNat < 12 by omega) (show (((a : Int).toNat : Nat) : Int) < iI s 90 by omega)).2.1)) ?_
              have b2023 : (0 : Int) ≤ iC s2019 203 (a).toNat ∧ iC s2019 203 (a).toNat ≤ 50 := Is2019.2 203 _ (show (a).toNat < 12 by omega)
              have q2024 : iC s2019 203 (a).toNat = iC s 203 (a).toNat := fm_c Gs2019 (by decide)
              refine d_lift (fun k ws X h => z_aload_n X (x := A 179) (show cdA 227 244 = some (.aload_n 0, 1, 0, 0, 0) from rfl) (List.Mem.tail _ (List.Mem.head _)) h) ?_
              refine d_liftS (fun k s X h => s_getR X 179 (show cdA 227 245 = some (.getfield 61, 3, 12, 32, 0) from rfl) (by decide) rfl rfl h) ?_
              refine d_lift (fun k ws X h => z_load X (x := b) (show cdA 227 248 = some (.iload 5, 2, 0, 0, 0) from rfl) (List.Mem.tail _ (List.Mem.tail _ (List.Mem.tail _ (List.Mem.tail _ (List.Mem.tail _ (List.Mem.tail _ (List.Mem.head _))))))) h) ?_
              refine d_ald 229 (show cdA 227 250 = some (.iaload, 1, 0, 0, 0) from rfl) (by decide) rfl (by omega) (show b < 12 by omega) (by decide) (Or.inr ((htn _ (show (b : Int).toNat < 12 by omega) (show (((b : Int).toNat : Nat) : Int) < iI s 90 by omega)).2.1)) ?_
              have b2025 : (0 : Int) ≤ iC s2019 203 (b).toNat ∧ iC s2019 203 (b).toNat ≤ 50 := Is2019.2 203 _ (show (b).toNat < 12 by omega)
              have q2026 : iC s2019 203 (b).toNat = iC s 203 (b).toNat := fm_c Gs2019 (by decide)
              refine d_br (by omega) (by omega) (fun k ws X h1 h2 => z_icmp_ge X (t := 263) (show cdA 227 251 = some (.if_icmp .ge 12, 3, 3, 0, 0) from rfl) (by decide) ⟨by omega, by omega⟩ ⟨by omega, by omega⟩ h1 h2) (fun g2027 => ?_) (fun g2027 => ?_)
              ·
                refine d_lift (fun k ws X h => z_aload_n X (x := A 179) (show cdA 227 263 = some (.aload_n 0, 1, 0, 0, 0) from rfl) (List.Mem.tail _ (List.Mem.head _)) h) ?_
                refine d_liftS (fun k s X h => s_getR X 179 (show cdA 227 264 = some (.getfield 61, 3, 12, 32, 0) from rfl) (by decide) rfl rfl h) ?_
                refine d_lift (fun k ws X h => z_load X (x := b) (show cdA 227 267 = some (.iload 5, 2, 0, 0, 0) from rfl) (List.Mem.tail _ (List.Mem.tail _ (List.Mem.tail _ (List.Mem.tail _ (List.Mem.tail _ (List.Mem.tail _ (List.Mem.head _))))))) h) ?_
                refine d_ald 229 (show cdA 227 269 = some (.iaload, 1, 0, 0, 0) from rfl) (by decide) rfl (by omega) (show b < 12 by omega) (by decide) (Or.inr ((htn _ (show (b : Int).toNat < 12 by omega) (show (((b : Int).toNat : Nat) : Int) < iI s 90 by omega)).2.1)) ?_
                have b2028 : (0 : Int) ≤ iC s2019 203 (b).toNat ∧ iC s2019 203 (b).toNat ≤ 50 := Is2019.2 203 _ (show (b).toNat < 12 by omega)
                have q2029 : iC s2019 203 (b).toNat = iC s 203 (b).toNat := fm_c Gs2019 (by decide)
                refine d_lift (fun k ws X h => z_add X (show cdA 227 270 = some (.iadd, 1, 0, 0, 0) from rfl) h) ?_
                refine d_any (fun y2030 hy2030 => ?_)
                refine d_ast 184 (show cdA 227 271 = some (.iastore, 1, 0, 0, 0) from rfl) (by decide) rfl (by omega) (show 1 < 7 by omega) (by decide) (show 161 ∈ _ by decide) (show ((-2147483648) : Int) ≤ y2030 ∧ y2030 ≤ 2147483647 by omega) ⟨by omega, by omega⟩ ?_
                refine d_mono (T' := TU T 161 7) (fun _ h => h) (fun _ _ h => Or.inr h) ?_
                obtain ⟨s2031, hs2031⟩ : ∃ x0, x0 = uC s2019 161 (1 : Int).toNat (Int32.ofInt y2030) := ⟨_, rfl⟩
                rw [← hs2031]
                have Is2031 : Bd s2031 := by rw [hs2031]; exact bd_C Is2019 (show ((-2147483648) : Int) ≤ y2030 ∧ y2030 ≤ 2147483647 by omega) ⟨by omega, by omega⟩
                have Fs2031 := fm_C (i := (1 : Int).toNat) (x := Int32.ofInt y2030) Gs2019 (show 161 ∈ _ by decide)
                rw [← hs2031] at Fs2031
                have fs2031 : Fm [] [161] s2019 s2031 := by rw [hs2031]; exact fm_C (fm_rf _ _ _) (show 161 ∈ _ by decide)
                have JNW_s2031 : NW s2031 := NW_fm fs2031 (by decide) JNW_s2019
                refine d_lift (fun k ws X h => z_inc X (x := b) (lv' := [(5, .int (Int32.ofInt (b + 1))), (6, .int (Int32.ofInt (iC t (216 + (b : Int).toNat) (c : Int).toNat))), (0, .ref (A 179)), (1, .int (Int32.ofInt a)), (2, .int (Int32.ofInt iz)), (3, .int (Int32.ofInt ka)), (4, .int (Int32.ofInt c))]) (show cdA 227 272 = some (.iinc 5 1, 3, 0, 0, 0) from rfl) (by decide) (List.Mem.tail _ (List.Mem.tail _ (List.Mem.tail _ (List.Mem.tail _ (List.Mem.tail _ (List.Mem.tail _ (List.Mem.head _))))))) (fun _ h => h) h) ?_
                refine d_lift (fun k ws X h => z_goto X (t := 177) (show cdA 227 275 = some (.goto (-98), 3, 0, 0, 0) from rfl) (by decide) h) ?_
                refine d_lvs (lv := [(0, .ref (A 179)), (1, .int (Int32.ofInt a)), (2, .int (Int32.ofInt iz)), (3, .int (Int32.ofInt ka)), (4, .int (Int32.ofInt c)), (5, .int (Int32.ofInt (b + 1)))]) (List.forall_mem_cons.mpr ⟨(List.Mem.tail _ (List.Mem.tail _ (List.Mem.head _))), (List.forall_mem_cons.mpr ⟨(List.Mem.tail _ (List.Mem.tail _ (List.Mem.tail _ (List.Mem.head _)))), (List.forall_mem_cons.mpr ⟨(List.Mem.tail _ (List.Mem.tail _ (List.Mem.tail _ (List.Mem.tail _ (List.Mem.head _))))), (List.forall_mem_cons.mpr ⟨(List.Mem.tail _ (List.Mem.tail _ (List.Mem.tail _ (List.Mem.tail _ (List.Mem.tail _ (List.Mem.head _)))))), (List.forall_mem_cons.mpr ⟨(List.Mem.tail _ (List.Mem.tail _ (List.Mem.tail _ (List.Mem.tail _ (List.Mem.tail _ (List.Mem.tail _ (List.Mem.head _))))))), (List.forall_mem_cons.mpr ⟨(List.Mem.head _), (fun q h => absurd h List.not_mem_nil)⟩)⟩)⟩)⟩)⟩)⟩) ?_
                exact ih _ a iz ka c (b + 1) Is2031 Fs2031 JNW_s2031 (by omega) (by omega) kx
              ·
                refine d_lift (fun k ws X h => z_aload_n X (x := A 179) (show cdA 227 254 = some (.aload_n 0, 1, 0, 0, 0) from rfl) (List.Mem.tail _ (List.Mem.head _)) h) ?_
                refine d_liftS (fun k s X h => s_getR X 179 (show cdA 227 255 = some (.getfield 61, 3, 12, 32, 0) from rfl) (by decide) rfl rfl h) ?_
                refine d_lift (fun k ws X h => z_load_n X (x := a) (show cdA 227 258 = some (.iload_n 1, 1, 0, 0, 0) from rfl) (List.Mem.tail _ (List.Mem.tail _ (List.Mem.head _))) h) ?_
                refine d_ald 229 (show cdA 227 259 = some (.iaload, 1, 0, 0, 0) from rfl) (by decide) rfl (by omega) (show a < 12 by omega) (by decide) (Or.inr ((htn _ (show (a : Int).toNat < 12 by omega) (show (((a : Int).toNat : Nat) : Int) < iI s 90 by omega)).2.1)) ?_
                have b2032 : (0 : Int) ≤ iC s2019 203 (a).toNat ∧ iC s2019 203 (a).toNat ≤ 50 := Is2019.2 203 _ (show (a).toNat < 12 by omega)
                have q2033 : iC s2019 203 (a).toNat = iC s 203 (a).toNat := fm_c Gs2019 (by decide)
                refine d_lift (fun k ws X h => z_goto X (t := 270) (show cdA 227 260 = some (.goto 10, 3, 0, 0, 0) from rfl) (by decide) h) ?_
                refine d_lift (fun k ws X h => z_add X (show cdA 227 270 = some (.iadd, 1, 0, 0, 0) from rfl) h) ?_
                refine d_any (fun y2034 hy2034 => ?_)
                refine d_ast 184 (show cdA 227 271 = some (.iastore, 1, 0, 0, 0) from rfl) (by decide) rfl (by omega) (show 1 < 7 by omega) (by decide) (show 161 ∈ _ by decide) (show ((-2147483648) : Int) ≤ y2034 ∧ y2034 ≤ 2147483647 by omega) ⟨by omega, by omega⟩ ?_
                refine d_mono (T' := TU T 161 7) (fun _ h => h) (fun _ _ h => Or.inr h) ?_
                obtain ⟨s2035, hs2035⟩ : ∃ x0, x0 = uC s2019 161 (1 : Int).toNat (Int32.ofInt y2034) := ⟨_, rfl⟩
                rw [← hs2035]
                have Is2035 : Bd s2035 := by rw [hs2035]; exact bd_C Is2019 (show ((-2147483648) : Int) ≤ y2034 ∧ y2034 ≤ 2147483647 by omega) ⟨by omega, by omega⟩
                have Fs2035 := fm_C (i := (1 : Int).toNat) (x := Int32.ofInt y2034) Gs2019 (show 161 ∈ _ by decide)
                rw [← hs2035] at Fs2035
                have fs2035 : Fm [] [161] s2019 s2035 := by rw [hs2035]; exact fm_C (fm_rf _ _ _) (show 161 ∈ _ by decide)
                have JNW_s2035 : NW s2035 := NW_fm fs2035 (by decide) JNW_s2019
                refine d_lift (fun k ws X h => z_inc X (x := b) (lv' := [(5, .int (Int32.ofInt (b + 1))), (6, .int (Int32.ofInt (iC t (216 + (b : Int).toNat) (c : Int).toNat))), (0, .ref (A 179)), (1, .int (Int32.ofInt a)), (2, .int (Int32.ofInt iz)), (3, .int (Int32.ofInt ka)), (4, .int (Int32.ofInt c))]) (show cdA 227 272 = some (.iinc 5 1, 3, 0, 0, 0) from rfl) (by decide) (List.Mem.tail _ (List.Mem.tail _ (List.Mem.tail _ (List.Mem.tail _ (List.Mem.tail _ (List.Mem.tail _ (List.Mem.head _))))))) (fun _ h => h) h) ?_
                refine d_lift (fun k ws X h => z_goto X (t := 177) (show cdA 227 275 = some (.goto (-98), 3, 0, 0, 0) from rfl) (by decide) h) ?_
                refine d_lvs (lv := [(0, .ref (A 179)), (1, .int (Int32.ofInt a)), (2, .int (Int32.ofInt iz)), (3, .int (Int32.ofInt ka)), (4, .int (Int32.ofInt c)), (5, .int (Int32.ofInt (b + 1)))]) (List.forall_mem_cons.mpr ⟨(List.Mem.tail _ (List.Mem.tail _ (List.Mem.head _))), (List.forall_mem_cons.mpr ⟨(List.Mem.tail _ (List.Mem.tail _ (List.Mem.tail _ (List.Mem.head _)))), (List.forall_mem_cons.mpr ⟨(List.Mem.tail _ (List.Mem.tail _ (List.Mem.tail _ (List.Mem.tail _ (List.Mem.head _))))), (List.forall_mem_cons.mpr ⟨(List.Mem.tail _ (List.Mem.tail _ (List.Mem.tail _ (List.Mem.tail _ (List.Mem.tail _ (List.Mem.head _)))))), (List.forall_mem_cons.mpr ⟨(List.Mem.tail _ (List.Mem.tail _ (List.Mem.tail _ (List.Mem.tail _ (List.Mem.tail _ (List.Mem.tail _ (List.Mem.head _))))))), (List.forall_mem_cons.mpr ⟨(List.Mem.head _), (fun q h => absurd h List.not_mem_nil)⟩)⟩)⟩)⟩)⟩)⟩) ?_
                exact ih _ a iz ka c (b + 1) Is2035 Fs2035 JNW_s2035 (by omega) (by omega) kx
  have L35 : ∀ (n : Nat) (t : PS) (a iz ka : Int), Bd t → Fm [] [161] s t → NW t → (0 ≤ a ∧ a < iI s 90 ∧ a ≤ 11 ∧ (iz = 0 ∨ iz = 1) ∧ 0 ≤ ka ∧ ka ≤ 24) → 24 - ka ≤ n → (∀ (t' : PS) (iz' ka' : Int), Bd t' → Fm [] [161] s t' → NW t' → (0 ≤ a ∧ a < iI s 90 ∧ a ≤ 11 ∧ (iz' = 0 ∨ iz' = 1) ∧ 0 ≤ ka' ∧ ka' ≤ 24) → DS l s0 D A dT 227 (rmN 227) [] [161] (TU T 161 7) Q (TU T 161 7) 284 [(0, .ref (A 179)), (1, .int (Int32.ofInt a)), (2, .int (Int32.ofInt iz')), (3, .int (Int32.ofInt ka'))] [] t') → DS l s0 D A dT 227 (rmN 227) [] [161] (TU T 161 7) Q (TU T 161 7) 35 [(0, .ref (A 179)), (1, .int (Int32.ofInt a)), (2, .int (Int32.ofInt iz)), (3, .int (Int32.ofInt ka))] [] t := by
    intro n
    induction n with
    | zero =>
      intro t a iz ka I F jjNW hi hm kx
      have hta3001 : ∀ a ∈ ([161, 230] : List Nat), ∀ j, j < (bA a).2.2 → (TU T 161 7).2 a j := hta_g hta (by decide)
      refine d_lift (fun k ws X h => z_load_n X (x := ka) (show cdA 227 35 = some (.iload_n 3, 1, 0, 0, 0) from rfl) (List.Mem.tail _ (List.Mem.tail _ (List.Mem.tail _ (List.Mem.head _)))) h) ?_
      refine d_lift (fun k ws X h => z_aload_n X (x := A 179) (show cdA 227 36 = some (.aload_n 0, 1, 0, 0, 0) from rfl) (List.Mem.head _) h) ?_
      refine d_liftS (fun k s X h => s_getR X 179 (show cdA 227 37 = some (.getfield 58, 3, 12, 31, 0) from rfl) (by decide) rfl rfl h) ?_
      refine d_lift (fun k ws X h => z_load_n X (x := a) (show cdA 227 40 = some (.iload_n 1, 1, 0, 0, 0) from rfl) (List.Mem.tail _ (List.Mem.head _)) h) ?_
      refine d_ald 228 (show cdA 227 41 = some (.iaload, 1, 0, 0, 0) from rfl) (by decide) rfl (by omega) (show a < 12 by omega) (by decide) (Or.inr ((htn _ (show (a : Int).toNat < 12 by omega) (show (((a : Int).toNat : Nat) : Int) < iI s 90 by omega)).1)) ?_
      have b3002 : (0 : Int) ≤ iC t 202 (a).toNat ∧ iC t 202 (a).toNat ≤ 24 := I.2 202 _ (show (a).toNat < 12 by omega)
      have q3003 : iC t 202 (a).toNat = iC s 202 (a).toNat := fm_c F (by decide)
      have q3004 : iC t 202 (a : Int).toNat = iC s 202 (a : Int).toNat := fm_c F (by decide)
      have q3005 : iI t 90 = iI s 90 := fm_i F (by decide)
      refine d_br (by omega) (by omega) (fun k ws X h1 h2 => z_icmp_ge X (t := 284) (show cdA 227 42 = some (.if_icmp .ge 242, 3, 3, 0, 0) from rfl) (by decide) ⟨by omega, by omega⟩ ⟨by omega, by omega⟩ h1 h2) (fun g3006 => ?_) (fun g3006 => ?_)
      ·
        refine d_lvs (lv := [(0, .ref (A 179)), (1, .int (Int32.ofInt a)), (2, .int (Int32.ofInt iz)), (3, .int (Int32.ofInt ka))]) (List.forall_mem_cons.mpr ⟨(List.Mem.head _), (List.forall_mem_cons.mpr ⟨(List.Mem.tail _ (List.Mem.head _)), (List.forall_mem_cons.mpr ⟨(List.Mem.tail _ (List.Mem.tail _ (List.Mem.head _))), (List.forall_mem_cons.mpr ⟨(List.Mem.tail _ (List.Mem.tail _ (List.Mem.tail _ (List.Mem.head _)))), (fun q h => absurd h List.not_mem_nil)⟩)⟩)⟩)⟩) ?_
        exact kx _ iz ka I F jjNW (by omega)
      ·
        refine d_lift (fun k ws X h => z_aload_n X (x := A 179) (show cdA 227 45 = some (.aload_n 0, 1, 0, 0, 0) from rfl) (List.Mem.head _) h) ?_
        refine d_liftS (fun k s X h => s_getR X 179 (show cdA 227 46 = some (.getfield 64, 3, 12, 33, 0) from rfl) (by decide) rfl rfl h) ?_
        refine d_lift (fun k ws X h => z_load_n X (x := a) (show cdA 227 49 = some (.iload_n 1, 1, 0, 0, 0) from rfl) (List.Mem.tail _ (List.Mem.head _)) h) ?_
        refine d_liftS (fun k s X h => z_aald X rw_230 (show cdA 227 50 = some (.aaload, 1, 0, 0, 0) from rfl) (by omega) (show a < 12 by omega) (by decide) h) ?_
        refine d_lift (fun k ws X h => z_load_n X (x := ka) (show cdA 227 51 = some (.iload_n 3, 1, 0, 0, 0) from rfl) (List.Mem.tail _ (List.Mem.tail _ (List.Mem.tail _ (List.Mem.head _)))) h) ?_
        refine d_ald2 rw_230 (show cdA 227 52 = some (.iaload, 1, 0, 0, 0) from rfl) (show (a : Int).toNat < 12 by omega) (by omega) (show ka < 24 by omega) (by decide) (Or.inr ((htn _ (show (a : Int).toNat < 12 by omega) (show (((a : Int).toNat : Nat) : Int) < iI s 90 by omega)).2.2.2 _ (show (((ka : Int).toNat : Nat) : Int) < iC s 202 (a : Int).toNat by omega))) ?_
        have b3007 : (0 : Int) ≤ (iC t (204 + (a : Int).toNat) (ka : Int).toNat) ∧ (iC t (204 + (a : Int).toNat) (ka : Int).toNat) ≤ 127 := rw_bd rw_230 I (show (a : Int).toNat < 12 by omega) (show (ka : Int).toNat < 24 by omega)
        refine d_lift (fun k ws X h => z_store X (lv' := [(4, .int (Int32.ofInt (iC t (204 + (a : Int).toNat) (ka : Int).toNat))), (0, .ref (A 179)), (1, .int (Int32.ofInt a)), (2, .int (Int32.ofInt iz)), (3, .int (Int32.ofInt ka))]) (show cdA 227 53 = some (.istore 4, 2, 0, 0, 0) from rfl) (by decide) (fun _ h => h) h) ?_
        refine d_lift (fun k ws X h => z_load_n X (x := iz) (show cdA 227 55 = some (.iload_n 2, 1, 0, 0, 0) from rfl) (List.Mem.tail _ (List.Mem.tail _ (List.Mem.tail _ (List.Mem.head _)))) h) ?_
        refine d_br (by omega) (by omega) (fun k ws X h1 h2 => z_if_ne X (t := 69) (show cdA 227 56 = some (.ifCond .ne 13, 3, 1, 0, 0) from rfl) (by decide) ⟨by omega, by omega⟩ h1 h2) (fun g3008 => ?_) (fun g3008 => ?_)
        ·
          refine d_lift (fun k ws X h => z_const X (show cdA 227 69 = some (.iconst 1, 1, 0, 0, 0) from rfl) h) ?_
          refine d_lift (fun k ws X h => z_goto X (t := 74) (show cdA 227 70 = some (.goto 4, 3, 0, 0, 0) from rfl) (by decide) h) ?_
          refine d_lift (fun k ws X h => z_store_n X (lv' := [(2, .int (Int32.ofInt 1)), (4, .int (Int32.ofInt (iC t (204 + (a : Int).toNat) (ka : Int).toNat))), (0, .ref (A 179)), (1, .int (Int32.ofInt a)), (3, .int (Int32.ofInt ka))]) (show cdA 227 74 = some (.istore_n 2, 1, 0, 0, 0) from rfl) (by decide) (fun _ h => h) h) ?_
          refine d_lift (fun k ws X h => z_load_n X (x := ka) (show cdA 227 75 = some (.iload_n 3, 1, 0, 0, 0) from rfl) (List.Mem.tail _ (List.Mem.tail _ (List.Mem.tail _ (List.Mem.tail _ (List.Mem.head _))))) h) ?_
          refine d_br (by omega) (by omega) (fun k ws X h1 h2 => z_if_le X (t := 172) (show cdA 227 76 = some (.ifCond .le 96, 3, 5, 0, 0) from rfl) (by decide) ⟨by omega, by omega⟩ h1 h2) (fun g3009 => ?_) (fun g3009 => ?_)
          ·
            refine d_lift (fun k ws X h => z_load_n X (x := a) (show cdA 227 172 = some (.iload_n 1, 1, 0, 0, 0) from rfl) (List.Mem.tail _ (List.Mem.tail _ (List.Mem.tail _ (List.Mem.head _)))) h) ?_
            refine d_lift (fun k ws X h => z_const X (show cdA 227 173 = some (.iconst 1, 1, 0, 0, 0) from rfl) h) ?_
            refine d_lift (fun k ws X h => z_add X (show cdA 227 174 = some (.iadd, 1, 0, 0, 0) from rfl) h) ?_
            refine d_lift (fun k ws X h => z_store X (lv' := [(5, .int (Int32.ofInt (a + 1))), (2, .int (Int32.ofInt 1)), (4, .int (Int32.ofInt (iC t (204 + (a : Int).toNat) (ka : Int).toNat))), (0, .ref (A 179)), (1, .int (Int32.ofInt a)), (3, .int (Int32.ofInt ka))]) (show cdA 227 175 = some (.istore 5, 2, 0, 0, 0) from rfl) (by decide) (fun _ h => h) h) ?_
            refine d_lvs (lv := [(0, .ref (A 179)), (1, .int (Int32.ofInt a)), (2, .int (Int32.ofInt 1)), (3, .int (Int32.ofInt ka)), (4, .int (Int32.ofInt (iC t (204 + (a : Int).toNat) (ka : Int).toNat))), (5, .int (Int32.ofInt (a + 1)))]) (List.forall_mem_cons.mpr ⟨(List.Mem.tail _ (List.Mem.tail _ (List.Mem.tail _ (List.Mem.head _)))), (List.forall_mem_cons.mpr ⟨(List.Mem.tail _ (List.Mem.tail _ (List.Mem.tail _ (List.Mem.tail _ (List.Mem.head _))))), (List.forall_mem_cons.mpr ⟨(List.Mem.tail _ (List.Mem.head _)), (List.forall_mem_cons.mpr ⟨(List.Mem.tail _ (List.Mem.tail _ (List.Mem.tail _ (List.Mem.tail _ (List.Mem.tail _ (List.Mem.head _)))))), (List.forall_mem_cons.mpr ⟨(List.Mem.tail _ (List.Mem.tail _ (List.Mem.head _))), (List.forall_mem_cons.mpr ⟨(List.Mem.head _), (fun q h => absurd h List.not_mem_nil)⟩)⟩)⟩)⟩)⟩)⟩) ?_
            refine L177 ((12 - (a + 1) : Int)).toNat t a 1 ka (iC t (204 + (a : Int).toNat) (ka : Int).toNat) (a + 1) I F jjNW (by omega) (by omega) ?_
            intro s3010 x3011 Is3010 Fs3010 JNW_s3010 hs3010
            have hta3012 : ∀ a ∈ ([161, 230] : List Nat), ∀ j, j < (bA a).2.2 → (TU T 161 7).2 a j := hta_g hta (by decide)
            refine d_lift (fun k ws X h => z_inc X (x := ka) (lv' := [(3, .int (Int32.ofInt (ka + 1))), (0, .ref (A 179)), (1, .int (Int32.ofInt a)), (2, .int (Int32.ofInt 1)), (4, .int (Int32.ofInt (iC t (204 + (a : Int).toNat) (ka : Int).toNat))), (5, .int (Int32.ofInt x3011))]) (show cdA 227 278 = some (.iinc 3 1, 3, 0, 0, 0) from rfl) (by decide) (List.Mem.tail _ (List.Mem.tail _ (List.Mem.tail _ (List.Mem.head _)))) (fun _ h => h) h) ?_
            refine d_lift (fun k ws X h => z_goto X (t := 35) (show cdA 227 281 = some (.goto (-246), 3, 0, 0, 0) from rfl) (by decide) h) ?_
            exfalso
            omega
          ·
            refine d_lift (fun k ws X h => z_aload_n X (x := A 179) (show cdA 227 79 = some (.aload_n 0, 1, 0, 0, 0) from rfl) (List.Mem.tail _ (List.Mem.tail _ (List.Mem.head _))) h) ?_
            refine d_liftS (fun k s X h => s_getR X 179 (show cdA 227 80 = some (.getfield 76, 3, 12, 37, 0) from rfl) (by decide) rfl rfl h) ?_
            refine d_lift (fun k ws X h => z_aload_n X (x := A 179) (show cdA 227 83 = some (.aload_n 0, 1, 0, 0, 0) from rfl) (List.Mem.tail _ (List.Mem.tail _ (List.Mem.head _))) h) ?_
            refine d_liftS (fun k s X h => s_getR X 179 (show cdA 227 84 = some (.getfield 64, 3, 12, 33, 0) from rfl) (by decide) rfl rfl h) ?_
            refine d_lift (fun k ws X h => z_load_n X (x := a) (show cdA 227 87 = some (.iload_n 1, 1, 0, 0, 0) from rfl) (List.Mem.tail _ (List.Mem.tail _ (List.Mem.tail _ (List.Mem.head _)))) h) ?_
            refine d_liftS (fun k s X h => z_aald X rw_230 (show cdA 227 88 = some (.aaload, 1, 0, 0, 0) from rfl) (by omega) (show a < 12 by omega) (by decide) h) ?_
            refine d_lift (fun k ws X h => z_load_n X (x := ka) (show cdA 227 89 = some (.iload_n 3, 1, 0, 0, 0) from rfl) (List.Mem.tail _ (List.Mem.tail _ (List.Mem.tail _ (List.Mem.tail _ (List.Mem.head _))))) h) ?_
            refine d_lift (fun k ws X h => z_const X (show cdA 227 90 = some (.iconst 1, 1, 0, 0, 0) from rfl) h) ?_
            refine d_lift (fun k ws X h => z_sub X (show cdA 227 91 = some (.isub, 1, 0, 0, 0) from rfl) h) ?_
            refine d_ald2 rw_230 (show cdA 227 92 = some (.iaload, 1, 0, 0, 0) from rfl) (show (a : Int).toNat < 12 by omega) (by omega) (show (ka - 1) < 24 by omega) (by decide) (Or.inr ((htn _ (show (a : Int).toNat < 12 by omega) (show (((a : Int).toNat : Nat) : Int) < iI s 90 by omega)).2.2.2 _ (show ((((ka - 1) : Int).toNat : Nat) : Int) < iC s 202 (a : Int).toNat by omega))) ?_
            have b3013 : (0 : Int) ≤ (iC t (204 + (a : Int).toNat) ((ka - 1) : Int).toNat) ∧ (iC t (204 + (a : Int).toNat) ((ka - 1) : Int).toNat) ≤ 127 := rw_bd rw_230 I (show (a : Int).toNat < 12 by omega) (show ((ka - 1) : Int).toNat < 24 by omega)
            refine d_zald 258 (show cdA 227 93 = some (.baload, 1, 0, 0, 0) from rfl) (by decide) rfl (by omega) (show (iC t (204 + (a : Int).toNat) ((ka - 1) : Int).toNat) < 128 by omega) (by decide) (hta3001 230 (by decide) _ (show ((iC t (204 + (a : Int).toNat) ((ka - 1) : Int).toNat)).toNat < 128 by omega)) ?_
            have b3014 : (0 : Int) ≤ iC t 230 ((iC t (204 + (a : Int).toNat) ((ka - 1) : Int).toNat)).toNat ∧ iC t 230 ((iC t (204 + (a : Int).toNat) ((ka - 1) : Int).toNat)).toNat ≤ 1 := I.2 230 _ (show ((iC t (204 + (a : Int).toNat) ((ka - 1) : Int).toNat)).toNat < 128 by omega)
            have q3015 : iC t 230 ((iC t (204 + (a : Int).toNat) ((ka - 1) : Int).toNat)).toNat = iC s 230 ((iC t (204 + (a : Int).toNat) ((ka - 1) : Int).toNat)).toNat := fm_c F (by decide)
            refine d_lift (fun k ws X h => z_store X (lv' := [(5, .int (Int32.ofInt (iC t 230 ((iC t (204 + (a : Int).toNat) ((ka - 1) : Int).toNat)).toNat))), (2, .int (Int32.ofInt 1)), (4, .int (Int32.ofInt (iC t (204 + (a : Int).toNat) (ka : Int).toNat))), (0, .ref (A 179)), (1, .int (Int32.ofInt a)), (3, .int (Int32.ofInt ka))]) (show cdA 227 94 = some (.istore 5, 2, 0, 0, 0) from rfl) (by decide) (fun _ h => h) h) ?_
            refine d_lift (fun k ws X h => z_load X (x := (iC t 230 ((iC t (204 + (a : Int).toNat) ((ka - 1) : Int).toNat)).toNat)) (show cdA 227 96 = some (.iload 5, 2, 0, 0, 0) from rfl) (List.Mem.head _) h) ?_
            refine d_lift (fun k ws X h => z_aload_n X (x := A 179) (show cdA 227 98 = some (.aload_n 0, 1, 0, 0, 0) from rfl) (List.Mem.tail _ (List.Mem.tail _ (List.Mem.tail _ (List.Mem.head _)))) h) ?_
            refine d_liftS (fun k s X h => s_getR X 179 (show cdA 227 99 = some (.getfield 76, 3, 12, 37, 0) from rfl) (by decide) rfl rfl h) ?_
            refine d_lift (fun k ws X h => z_load X (x := (iC t (204 + (a : Int).toNat) (ka : Int).toNat)) (show cdA 227 102 = some (.iload 4, 2, 0, 0, 0) from rfl) (List.Mem.tail _ (List.Mem.tail _ (List.Mem.head _))) h) ?_
            refine d_zald 258 (show cdA 227 104 = some (.baload, 1, 0, 0, 0) from rfl) (by decide) rfl (by omega) (show (iC t (204 + (a : Int).toNat) (ka : Int).toNat) < 128 by omega) (by decide) (hta3001 230 (by decide) _ (show ((iC t (204 + (a : Int).toNat) (ka : Int).toNat)).toNat < 128 by omega)) ?_
            have b3016 : (0 : Int) ≤ iC t 230 ((iC t (204 + (a : Int).toNat) (ka : Int).toNat)).toNat ∧ iC t 230 ((iC t (204 + (a : Int).toNat) (ka : Int).toNat)).toNat ≤ 1 := I.2 230 _ (show ((iC t (204 + (a : Int).toNat) (ka : Int).toNat)).toNat < 128 by omega)
            have q3017 : iC t 230 ((iC t (204 + (a : Int).toNat) (ka : Int).toNat)).toNat = iC s 230 ((iC t (204 + (a : Int).toNat) (ka : Int).toNat)).toNat := fm_c F (by decide)
            refine d_br (by omega) (by omega) (fun k ws X h1 h2 => z_icmp_eq X (t := 123) (show cdA 227 105 = some (.if_icmp .eq 18, 3, 0, 0, 0) from rfl) (by decide) ⟨by omega, by omega⟩ ⟨by omega, by omega⟩ h1 h2) (fun g3018 => ?_) (fun g3018 => ?_)
            ·
              refine d_lift (fun k ws X h => z_load X (x := (iC t 230 ((iC t (204 + (a : Int).toNat) ((ka - 1) : Int).toNat)).toNat)) (show cdA 227 123 = some (.iload 5, 2, 0, 0, 0) from rfl) (List.Mem.head _) h) ?_
              refine d_br (by omega) (by omega) (fun k ws X h1 h2 => z_if_eq X (t := 172) (show cdA 227 125 = some (.ifCond .eq 47, 3, 0, 0, 0) from rfl) (by decide) ⟨by omega, by omega⟩ h1 h2) (fun g3019 => ?_) (fun g3019 => ?_)
              ·
                refine d_lift (fun k ws X h => z_load_n X (x := a) (show cdA 227 172 = some (.iload_n 1, 1, 0, 0, 0) from rfl) (List.Mem.tail _ (List.Mem.tail _ (List.Mem.tail _ (List.Mem.tail _ (List.Mem.head _))))) h) ?_
                refine d_lift (fun k ws X h => z_const X (show cdA 227 173 = some (.iconst 1, 1, 0, 0, 0) from rfl) h) ?_
                refine d_lift (fun k ws X h => z_add X (show cdA 227 174 = some (.iadd, 1, 0, 0, 0) from rfl) h) ?_
                refine d_lift (fun k ws X h => z_store X (lv' := [(5, .int (Int32.ofInt (a + 1))), (2, .int (Int32.ofInt 1)), (4, .int (Int32.ofInt (iC t (204 + (a : Int).toNat) (ka : Int).toNat))), (0, .ref (A 179)), (1, .int (Int32.ofInt a)), (3, .int (Int32.ofInt ka))]) (show cdA 227 175 = some (.istore 5, 2, 0, 0, 0) from rfl) (by decide) (fun _ h => h) h) ?_
                refine d_lvs (lv := [(0, .ref (A 179)), (1, .int (Int32.ofInt a)), (2, .int (Int32.ofInt 1)), (3, .int (Int32.ofInt ka)), (4, .int (Int32.ofInt (iC t (204 + (a : Int).toNat) (ka : Int).toNat))), (5, .int (Int32.ofInt (a + 1)))]) (List.forall_mem_cons.mpr ⟨(List.Mem.tail _ (List.Mem.tail _ (List.Mem.tail _ (List.Mem.head _)))), (List.forall_mem_cons.mpr ⟨(List.Mem.tail _ (List.Mem.tail _ (List.Mem.tail _ (List.Mem.tail _ (List.Mem.head _))))), (List.forall_mem_cons.mpr ⟨(List.Mem.tail _ (List.Mem.head _)), (List.forall_mem_cons.mpr ⟨(List.Mem.tail _ (List.Mem.tail _ (List.Mem.tail _ (List.Mem.tail _ (List.Mem.tail _ (List.Mem.head _)))))), (List.forall_mem_cons.mpr ⟨(List.Mem.tail _ (List.Mem.tail _ (List.Mem.head _))), (List.forall_mem_cons.mpr ⟨(List.Mem.head _), (fun q h => absurd h List.not_mem_nil)⟩)⟩)⟩)⟩)⟩)⟩) ?_
                refine L177 ((12 - (a + 1) : Int)).toNat t a 1 ka (iC t (204 + (a : Int).toNat) (ka : Int).toNat) (a + 1) I F jjNW (by omega) (by omega) ?_
                intro s3020 x3021 Is3020 Fs3020 JNW_s3020 hs3020
                have hta3022 : ∀ a ∈ ([161, 230] : List Nat), ∀ j, j < (bA a).2.2 → (TU T 161 7).2 a j := hta_g hta (by decide)
                refine d_lift (fun k ws X h => z_inc X (x := ka) (lv' := [(3, .int (Int32.ofInt (ka + 1))), (0, .ref (A 179)), (1, .int (Int32.ofInt a)), (2, .int (Int32.ofInt 1)), (4, .int (Int32.ofInt (iC t (204 + (a : Int).toNat) (ka : Int).toNat))), (5, .int (Int32.ofInt x3021))]) (show cdA 227 278 = some (.iinc 3 1, 3, 0, 0, 0) from rfl) (by decide) (List.Mem.tail _ (List.Mem.tail _ (List.Mem.tail _ (List.Mem.head _)))) (fun _ h => h) h) ?_
                refine d_lift (fun k ws X h => z_goto X (t := 35) (show cdA 227 281 = some (.goto (-246), 3, 0, 0, 0) from rfl) (by decide) h) ?_
                exfalso
                omega
              ·
                refine d_lift (fun k ws X h => z_aload_n X (x := A 179) (show cdA 227 128 = some (.aload_n 0, 1, 0, 0, 0) from rfl) (List.Mem.tail _ (List.Mem.tail _ (List.Mem.tail _ (List.Mem.head _)))) h) ?_
                refine d_liftS (fun k s X h => s_getR X 179 (show cdA 227 129 = some (.getfield 76, 3, 12, 37, 0) from rfl) (by decide) rfl rfl h) ?_
                refine d_lift (fun k ws X h => z_load X (x := (iC t (204 + (a : Int).toNat) (ka : Int).toNat)) (show cdA 227 132 = some (.iload 4, 2, 0, 0, 0) from rfl) (List.Mem.tail _ (List.Mem.tail _ (List.Mem.head _))) h) ?_
                refine d_zald 258 (show cdA 227 134 = some (.baload, 1, 0, 0, 0) from rfl) (by decide) rfl (by omega) (show (iC t (204 + (a : Int).toNat) (ka : Int).toNat) < 128 by omega) (by decide) (hta3001 230 (by decide) _ (show ((iC t (204 + (a : Int).toNat) (ka : Int).toNat)).toNat < 128 by omega)) ?_
                have b3023 : (0 : Int) ≤ iC t 230 ((iC t (204 + (a : Int).toNat) (ka : Int).toNat)).toNat ∧ iC t 230 ((iC t (204 + (a : Int).toNat) (ka : Int).toNat)).toNat ≤ 1 := I.2 230 _ (show ((iC t (204 + (a : Int).toNat) (ka : Int).toNat)).toNat < 128 by omega)
                have q3024 : iC t 230 ((iC t (204 + (a : Int).toNat) (ka : Int).toNat)).toNat = iC s 230 ((iC t (204 + (a : Int).toNat) (ka : Int).toNat)).toNat := fm_c F (by decide)
                refine d_br (by omega) (by omega) (fun k ws X h1 h2 => z_if_eq X (t := 172) (show cdA 227 135 = some (.ifCond .eq 37, 3, 0, 0, 0) from rfl) (by decide) ⟨by omega, by omega⟩ h1 h2) (fun g3025 => ?_) (fun g3025 => ?_)
                ·
                  refine d_lift (fun k ws X h => z_load_n X (x := a) (show cdA 227 172 = some (.iload_n 1, 1, 0, 0, 0) from rfl) (List.Mem.tail _ (List.Mem.tail _ (List.Mem.tail _ (List.Mem.tail _ (List.Mem.head _))))) h) ?_
                  refine d_lift (fun k ws X h => z_const X (show cdA 227 173 = some (.iconst 1, 1, 0, 0, 0) from rfl) h) ?_
                  refine d_lift (fun k ws X h => z_add X (show cdA 227 174 = some (.iadd, 1, 0, 0, 0) from rfl) h) ?_
                  refine d_lift (fun k ws X h => z_store X (lv' := [(5, .int (Int32.ofInt (a + 1))), (2, .int (Int32.ofInt 1)), (4, .int (Int32.ofInt (iC t (204 + (a : Int).toNat) (ka : Int).toNat))), (0, .ref (A 179)), (1, .int (Int32.ofInt a)), (3, .int (Int32.ofInt ka))]) (show cdA 227 175 = some (.istore 5, 2, 0, 0, 0) from rfl) (by decide) (fun _ h => h) h) ?_
                  refine d_lvs (lv := [(0, .ref (A 179)), (1, .int (Int32.ofInt a)), (2, .int (Int32.ofInt 1)), (3, .int (Int32.ofInt ka)), (4, .int (Int32.ofInt (iC t (204 + (a : Int).toNat) (ka : Int).toNat))), (5, .int (Int32.ofInt (a + 1)))]) (List.forall_mem_cons.mpr ⟨(List.Mem.tail _ (List.Mem.tail _ (List.Mem.tail _ (List.Mem.head _)))), (List.forall_mem_cons.mpr ⟨(List.Mem.tail _ (List.Mem.tail _ (List.Mem.tail _ (List.Mem.tail _ (List.Mem.head _))))), (List.forall_mem_cons.mpr ⟨(List.Mem.tail _ (List.Mem.head _)), (List.forall_mem_cons.mpr ⟨(List.Mem.tail _ (List.Mem.tail _ (List.Mem.tail _ (List.Mem.tail _ (List.Mem.tail _ (List.Mem.head _)))))), (List.forall_mem_cons.mpr ⟨(List.Mem.tail _ (List.Mem.tail _ (List.Mem.head _))), (List.forall_mem_cons.mpr ⟨(List.Mem.head _), (fun q h => absurd h List.not_mem_nil)⟩)⟩)⟩)⟩)⟩)⟩) ?_
                  refine L177 ((12 - (a + 1) : Int)).toNat t a 1 ka (iC t (204 + (a : Int).toNat) (ka : Int).toNat) (a + 1) I F jjNW (by omega) (by omega) ?_
                  intro s3026 x3027 Is3026 Fs3026 JNW_s3026 hs3026
                  have hta3028 : ∀ a ∈ ([161, 230] : List Nat), ∀ j, j < (bA a).2.2 → (TU T 161 7).2 a j := hta_g hta (by decide)
                  refine d_lift (fun k ws X h => z_inc X (x := ka) (lv' := [(3, .int (Int32.ofInt (ka + 1))), (0, .ref (A 179)), (1, .int (Int32.ofInt a)), (2, .int (Int32.ofInt 1)), (4, .int (Int32.ofInt (iC t (204 + (a : Int).toNat) (ka : Int).toNat))), (5, .int (Int32.ofInt x3027))]) (show cdA 227 278 = some (.iinc 3 1, 3, 0, 0, 0) from rfl) (by decide) (List.Mem.tail _ (List.Mem.tail _ (List.Mem.tail _ (List.Mem.head _)))) (fun _ h => h) h) ?_
                  refine d_lift (fun k ws X h => z_goto X (t := 35) (show cdA 227 281 = some (.goto (-246), 3, 0, 0, 0) from rfl) (by decide) h) ?_
                  exfalso
                  omega
                ·
                  refine d_lift (fun k ws X h => z_aload_n X (x := A 179) (show cdA 227 138 = some (.aload_n 0, 1, 0, 0, 0) from rfl) (List.Mem.tail _ (List.Mem.tail _ (List.Mem.tail _ (List.Mem.head _)))) h) ?_
                  refine d_liftS (fun k s X h => s_getR X 179 (show cdA 227 139 = some (.getfield 64, 3, 12, 33, 0) from rfl) (by decide) rfl rfl h) ?_
                  refine d_lift (fun k ws X h => z_load_n X (x := a) (show cdA 227 142 = some (.iload_n 1, 1, 0, 0, 0) from rfl) (List.Mem.tail _ (List.Mem.tail _ (List.Mem.tail _ (List.Mem.tail _ (List.Mem.head _))))) h) ?_
                  refine d_liftS (fun k s X h => z_aald X rw_230 (show cdA 227 143 = some (.aaload, 1, 0, 0, 0) from rfl) (by omega) (show a < 12 by omega) (by decide) h) ?_
                  refine d_lift (fun k ws X h => z_load_n X (x := ka) (show cdA 227 144 = some (.iload_n 3, 1, 0, 0, 0) from rfl) (List.Mem.tail _ (List.Mem.tail _ (List.Mem.tail _ (List.Mem.tail _ (List.Mem.tail _ (List.Mem.head _)))))) h) ?_
                  refine d_lift (fun k ws X h => z_const X (show cdA 227 145 = some (.iconst 1, 1, 0, 0, 0) from rfl) h) ?_
                  refine d_lift (fun k ws X h => z_sub X (show cdA 227 146 = some (.isub, 1, 0, 0, 0) from rfl) h) ?_
                  refine d_ald2 rw_230 (show cdA 227 147 = some (.iaload, 1, 0, 0, 0) from rfl) (show (a : Int).toNat < 12 by omega) (by omega) (show (ka - 1) < 24 by omega) (by decide) (Or.inr ((htn _ (show (a : Int).toNat < 12 by omega) (show (((a : Int).toNat : Nat) : Int) < iI s 90 by omega)).2.2.2 _ (show ((((ka - 1) : Int).toNat : Nat) : Int) < iC s 202 (a : Int).toNat by omega))) ?_
                  have b3029 : (0 : Int) ≤ (iC t (204 + (a : Int).toNat) ((ka - 1) : Int).toNat) ∧ (iC t (204 + (a : Int).toNat) ((ka - 1) : Int).toNat) ≤ 127 := rw_bd rw_230 I (show (a : Int).toNat < 12 by omega) (show ((ka - 1) : Int).toNat < 24 by omega)
                  refine d_lift (fun k ws X h => z_load X (x := (iC t (204 + (a : Int).toNat) (ka : Int).toNat)) (show cdA 227 148 = some (.iload 4, 2, 0, 0, 0) from rfl) (List.Mem.tail _ (List.Mem.tail _ (List.Mem.head _))) h) ?_
                  refine d_callT (As := [.int (Int32.ofInt (iC t (204 + (a : Int).toNat) ((ka - 1) : Int).toNat)), .int (Int32.ofInt (iC t (204 + (a : Int).toNat) (ka : Int).toNat))]) (st := []) (show cdA 227 150 = some (.invokestatic 312, 3, 225, 1, 0) from rfl) rfl (d_stepOf (T := TU T 161 7) G I (by omega) (by omega) (fun q h => hti q ((by decide : ∀ q ∈ ([] : List Nat), q ∈ ([90, 89] : List Nat)) q h)) (fun a h => hta3001 a ((by decide : ∀ q ∈ ([] : List Nat), q ∈ ([161, 230] : List Nat)) a h))) ⟨rfl, rfl⟩ ⟨(show 6 + 1 ≤ 8 by omega), (show 8 + (mNL (miB 225) + 11) + 100 ≤ 143 by simp only [show mNL (miB 225) = 2 from rfl]; omega)⟩ (Nat.le_of_ble_eq_true rfl) (by decide) (by decide) (fun ee s3030 hq => ?_) (fun vv s3030 hq => ?_)
                  · obtain ⟨Is3030, Fs3030, e3031, hv, hrs3030, hps3030⟩ := hq; cases hv
                  obtain ⟨Is3030, Fs3030, e3031, hv, hrs3030, hps3030⟩ := hq
                  cases hv
                  have Gs3030 := fm_ts F Fs3030 (by decide) (by decide)
                  have JNW_s3030 : NW s3030 := NW_fm Fs3030 (by decide) jjNW
                  show DS l s0 D A dT 227 (rmN 227) [] [161] (TU T 161 7) Q (TU T 161 7) 153 [(5, .int (Int32.ofInt (iC t 230 ((iC t (204 + (a : Int).toNat) ((ka - 1) : Int).toNat)).toNat))), (2, .int (Int32.ofInt 1)), (4, .int (Int32.ofInt (iC t (204 + (a : Int).toNat) (ka : Int).toNat))), (0, .ref (A 179)), (1, .int (Int32.ofInt a)), (3, .int (Int32.ofInt ka))] [.int (Int32.ofInt e3031)] s3030
                  refine d_lift (fun k ws X h => z_const X (show cdA 227 153 = some (.iconst 3, 1, 0, 0, 0) from rfl) h) ?_
                  refine d_br (by omega) (by omega) (fun k ws X h1 h2 => z_icmp_le X (t := 172) (show cdA 227 154 = some (.if_icmp .le 18, 3, 5, 0, 0) from rfl) (by decide) ⟨by omega, by omega⟩ ⟨by omega, by omega⟩ h1 h2) (fun g3032 => ?_) (fun g3032 => ?_)
                  ·
                    refine d_lift (fun k ws X h => z_load_n X (x := a) (show cdA 227 172 = some (.iload_n 1, 1, 0, 0, 0) from rfl) (List.Mem.tail _ (List.Mem.tail _ (List.Mem.tail _ (List.Mem.tail _ (List.Mem.head _))))) h) ?_
                    refine d_lift (fun k ws X h => z_const X (show cdA 227 173 = some (.iconst 1, 1, 0, 0, 0) from rfl) h) ?_
                    refine d_lift (fun k ws X h => z_add X (show cdA 227 174 = some (.iadd, 1, 0, 0, 0) from rfl) h) ?_
                    refine d_lift (fun k ws X h => z_store X (lv' := [(5, .int (Int32.ofInt (a + 1))), (2, .int (Int32.ofInt 1)), (4, .int (Int32.ofInt (iC t (204 + (a : Int).toNat) (ka : Int).toNat))), (0, .ref (A 179)), (1, .int (Int32.ofInt a)), (3, .int (Int32.ofInt ka))]) (show cdA 227 175 = some (.istore 5, 2, 0, 0, 0) from rfl) (by decide) (fun _ h => h) h) ?_
                    refine d_lvs (lv := [(0, .ref (A 179)), (1, .int (Int32.ofInt a)), (2, .int (Int32.ofInt 1)), (3, .int (Int32.ofInt ka)), (4, .int (Int32.ofInt (iC t (204 + (a : Int).toNat) (ka : Int).toNat))), (5, .int (Int32.ofInt (a + 1)))]) (List.forall_mem_cons.mpr ⟨(List.Mem.tail _ (List.Mem.tail _ (List.Mem.tail _ (List.Mem.head _)))), (List.forall_mem_cons.mpr ⟨(List.Mem.tail _ (List.Mem.tail _ (List.Mem.tail _ (List.Mem.tail _ (List.Mem.head _))))), (List.forall_mem_cons.mpr ⟨(List.Mem.tail _ (List.Mem.head _)), (List.forall_mem_cons.mpr ⟨(List.Mem.tail _ (List.Mem.tail _ (List.Mem.tail _ (List.Mem.tail _ (List.Mem.tail _ (List.Mem.head _)))))), (List.forall_mem_cons.mpr ⟨(List.Mem.tail _ (List.Mem.tail _ (List.Mem.head _))), (List.forall_mem_cons.mpr ⟨(List.Mem.head _), (fun q h => absurd h List.not_mem_nil)⟩)⟩)⟩)⟩)⟩)⟩) ?_
                    refine L177 ((12 - (a + 1) : Int)).toNat s3030 a 1 ka (iC t (204 + (a : Int).toNat) (ka : Int).toNat) (a + 1) Is3030 Gs3030 JNW_s3030 (by omega) (by omega) ?_
                    intro s3033 x3034 Is3033 Fs3033 JNW_s3033 hs3033
                    have hta3035 : ∀ a ∈ ([161, 230] : List Nat), ∀ j, j < (bA a).2.2 → (TU T 161 7).2 a j := hta_g hta (by decide)
                    refine d_lift (fun k ws X h => z_inc X (x := ka) (lv' := [(3, .int (Int32.ofInt (ka + 1))), (0, .ref (A 179)), (1, .int (Int32.ofInt a)), (2, .int (Int32.ofInt 1)), (4, .int (Int32.ofInt (iC t (204 + (a : Int).toNat) (ka : Int).toNat))), (5, .int (Int32.ofInt x3034))]) (show cdA 227 278 = some (.iinc 3 1, 3, 0, 0, 0) from rfl) (by decide) (List.Mem.tail _ (List.Mem.tail _ (List.Mem.tail _ (List.Mem.head _)))) (fun _ h => h) h) ?_
                    refine d_lift (fun k ws X h => z_goto X (t := 35) (show cdA 227 281 = some (.goto (-246), 3, 0, 0, 0) from rfl) (by decide) h) ?_
                    exfalso
                    omega
                  ·
                    refine d_lift (fun k ws X h => z_aload_n X (x := A 179) (show cdA 227 157 = some (.aload_n 0, 1, 0, 0, 0) from rfl) (List.Mem.tail _ (List.Mem.tail _ (List.Mem.tail _ (List.Mem.head _)))) h) ?_
                    refine d_liftS (fun k s X h => s_getR X 179 (show cdA 227 158 = some (.getfield 32, 3, 12, 21, 0) from rfl) (by decide) rfl rfl h) ?_
                    refine d_lift (fun k ws X h => z_const X (show cdA 227 161 = some (.iconst 3, 1, 0, 0, 0) from rfl) h) ?_
                    refine d_lift (fun k ws X h => w_dup2_11 X.1 (ax_d X (show cdA 227 162 = some (.dup2, 1, 0, 0, 0) from rfl)) rfl rfl h) ?_
                    refine d_ald 184 (show cdA 227 163 = some (.iaload, 1, 0, 0, 0) from rfl) (by decide) rfl (by omega) (show 3 < 7 by omega) (by decide) (hta3001 161 (by decide) _ (show (3 : Int).toNat < 7 by omega)) ?_
                    have b3036 : ((-2147483648) : Int) ≤ iC s3030 161 (3 : Int).toNat ∧ iC s3030 161 (3 : Int).toNat ≤ 2147483647 := Is3030.2 161 _ (show (3 : Int).toNat < 7 by omega)
                    refine d_lift (fun k ws X h => z_aload_n X (x := A 179) (show cdA 227 164 = some (.aload_n 0, 1, 0, 0, 0) from rfl) (List.Mem.tail _ (List.Mem.tail _ (List.Mem.tail _ (List.Mem.head _)))) h) ?_
                    refine d_liftS (fun k s X h => s_getR X 179 (show cdA 227 165 = some (.getfield 61, 3, 12, 32, 0) from rfl) (by decide) rfl rfl h) ?_
                    refine d_lift (fun k ws X h => z_load_n X (x := a) (show cdA 227 168 = some (.iload_n 1, 1, 0, 0, 0) from rfl) (List.Mem.tail _ (List.Mem.tail _ (List.Mem.tail _ (List.Mem.tail _ (List.Mem.head _))))) h) ?_
                    refine d_ald 229 (show cdA 227 169 = some (.iaload, 1, 0, 0, 0) from rfl) (by decide) rfl (by omega) (show a < 12 by omega) (by decide) (Or.inr ((htn _ (show (a : Int).toNat < 12 by omega) (show (((a : Int).toNat : Nat) : Int) < iI s 90 by omega)).2.1)) ?_
                    have b3037 : (0 : Int) ≤ iC s3030 203 (a).toNat ∧ iC s3030 203 (a).toNat ≤ 50 := Is3030.2 203 _ (show (a).toNat < 12 by omega)
                    have q3038 : iC s3030 203 (a).toNat = iC s 203 (a).toNat := fm_c Gs3030 (by decide)
                    refine d_lift (fun k ws X h => z_add X (show cdA 227 170 = some (.iadd, 1, 0, 0, 0) from rfl) h) ?_
                    refine d_any (fun y3039 hy3039 => ?_)
                    refine d_ast 184 (show cdA 227 171 = some (.iastore, 1, 0, 0, 0) from rfl) (by decide) rfl (by omega) (show 3 < 7 by omega) (by decide) (show 161 ∈ _ by decide) (show ((-2147483648) : Int) ≤ y3039 ∧ y3039 ≤ 2147483647 by omega) ⟨by omega, by omega⟩ ?_
                    refine d_mono (T' := TU T 161 7) (fun _ h => h) (fun _ _ h => Or.inr h) ?_
                    obtain ⟨s3040, hs3040⟩ : ∃ x0, x0 = uC s3030 161 (3 : Int).toNat (Int32.ofInt y3039) := ⟨_, rfl⟩
                    rw [← hs3040]
                    have Is3040 : Bd s3040 := by rw [hs3040]; exact bd_C Is3030 (show ((-2147483648) : Int) ≤ y3039 ∧ y3039 ≤ 2147483647 by omega) ⟨by omega, by omega⟩
                    have Fs3040 := fm_C (i := (3 : Int).toNat) (x := Int32.ofInt y3039) Gs3030 (show 161 ∈ _ by decide)
                    rw [← hs3040] at Fs3040
                    have fs3040 : Fm [] [161] s3030 s3040 := by rw [hs3040]; exact fm_C (fm_rf _ _ _) (show 161 ∈ _ by decide)
                    have JNW_s3040 : NW s3040 := NW_fm fs3040 (by decide) JNW_s3030
                    refine d_lift (fun k ws X h => z_load_n X (x := a) (show cdA 227 172 = some (.iload_n 1, 1, 0, 0, 0) from rfl) (List.Mem.tail _ (List.Mem.tail _ (List.Mem.tail _ (List.Mem.tail _ (List.Mem.head _))))) h) ?_
                    refine d_lift (fun k ws X h => z_const X (show cdA 227 173 = some (.iconst 1, 1, 0, 0, 0) from rfl) h) ?_
                    refine d_lift (fun k ws X h => z_add X (show cdA 227 174 = some (.iadd, 1, 0, 0, 0) from rfl) h) ?_
                    refine d_lift (fun k ws X h => z_store X (lv' := [(5, .int (Int32.ofInt (a + 1))), (2, .int (Int32.ofInt 1)), (4, .int (Int32.ofInt (iC t (204 + (a : Int).toNat) (ka : Int).toNat))), (0, .ref (A 179)), (1, .int (Int32.ofInt a)), (3, .int (Int32.ofInt ka))]) (show cdA 227 175 = some (.istore 5, 2, 0, 0, 0) from rfl) (by decide) (fun _ h => h) h) ?_
                    refine d_lvs (lv := [(0, .ref (A 179)), (1, .int (Int32.ofInt a)), (2, .int (Int32.ofInt 1)), (3, .int (Int32.ofInt ka)), (4, .int (Int32.ofInt (iC t (204 + (a : Int).toNat) (ka : Int).toNat))), (5, .int (Int32.ofInt (a + 1)))]) (List.forall_mem_cons.mpr ⟨(List.Mem.tail _ (List.Mem.tail _ (List.Mem.tail _ (List.Mem.head _)))), (List.forall_mem_cons.mpr ⟨(List.Mem.tail _ (List.Mem.tail _ (List.Mem.tail _ (List.Mem.tail _ (List.Mem.head _))))), (List.forall_mem_cons.mpr ⟨(List.Mem.tail _ (List.Mem.head _)), (List.forall_mem_cons.mpr ⟨(List.Mem.tail _ (List.Mem.tail _ (List.Mem.tail _ (List.Mem.tail _ (List.Mem.tail _ (List.Mem.head _)))))), (List.forall_mem_cons.mpr ⟨(List.Mem.tail _ (List.Mem.tail _ (List.Mem.head _))), (List.forall_mem_cons.mpr ⟨(List.Mem.head _), (fun q h => absurd h List.not_mem_nil)⟩)⟩)⟩)⟩)⟩)⟩) ?_
                    refine L177 ((12 - (a + 1) : Int)).toNat s3040 a 1 ka (iC t (204 + (a : Int).toNat) (ka : Int).toNat) (a + 1) Is3040 Fs3040 JNW_s3040 (by omega) (by omega) ?_
                    intro s3041 x3042 Is3041 Fs3041 JNW_s3041 hs3041
                    have hta3043 : ∀ a ∈ ([161, 230] : List Nat), ∀ j, j < (bA a).2.2 → (TU T 161 7).2 a j := hta_g hta (by decide)
                    refine d_lift (fun k ws X h => z_inc X (x := ka) (lv' := [(3, .int (Int32.ofInt (ka + 1))), (0, .ref (A 179)), (1, .int (Int32.ofInt a)), (2, .int (Int32.ofInt 1)), (4, .int (Int32.ofInt (iC t (204 + (a : Int).toNat) (ka : Int).toNat))), (5, .int (Int32.ofInt x3042))]) (show cdA 227 278 = some (.iinc 3 1, 3, 0, 0, 0) from rfl) (by decide) (List.Mem.tail _ (List.Mem.tail _ (List.Mem.tail _ (List.Mem.head _)))) (fun _ h => h) h) ?_
                    refine d_lift (fun k ws X h => z_goto X (t := 35) (show cdA 227 281 = some (.goto (-246), 3, 0, 0, 0) from rfl) (by decide) h) ?_
                    exfalso
                    omega
            ·
              refine d_lift (fun k ws X h => z_aload_n X (x := A 179) (show cdA 227 108 = some (.aload_n 0, 1, 0, 0, 0) from rfl) (List.Mem.tail _ (List.Mem.tail _ (List.Mem.tail _ (List.Mem.head _)))) h) ?_
              refine d_liftS (fun k s X h => s_getR X 179 (show cdA 227 109 = some (.getfield 32, 3, 12, 21, 0) from rfl) (by decide) rfl rfl h) ?_
              refine d_lift (fun k ws X h => z_const X (show cdA 227 112 = some (.iconst 2, 1, 0, 0, 0) from rfl) h) ?_
              refine d_lift (fun k ws X h => w_dup2_11 X.1 (ax_d X (show cdA 227 113 = some (.dup2, 1, 0, 0, 0) from rfl)) rfl rfl h) ?_
              refine d_ald 184 (show cdA 227 114 = some (.iaload, 1, 0, 0, 0) from rfl) (by decide) rfl (by omega) (show 2 < 7 by omega) (by decide) (hta3001 161 (by decide) _ (show (2 : Int).toNat < 7 by omega)) ?_
              have b3044 : ((-2147483648) : Int) ≤ iC t 161 (2 : Int).toNat ∧ iC t 161 (2 : Int).toNat ≤ 2147483647 := I.2 161 _ (show (2 : Int).toNat < 7 by omega)
              refine d_lift (fun k ws X h => z_aload_n X (x := A 179) (show cdA 227 115 = some (.aload_n 0, 1, 0, 0, 0) from rfl) (List.Mem.tail _ (List.Mem.tail _ (List.Mem.tail _ (List.Mem.head _)))) h) ?_
              refine d_liftS (fun k s X h => s_getR X 179 (show cdA 227 116 = some (.getfield 61, 3, 12, 32, 0) from rfl) (by decide) rfl rfl h) ?_
              refine d_lift (fun k ws X h => z_load_n X (x := a) (show cdA 227 119 = some (.iload_n 1, 1, 0, 0, 0) from rfl) (List.Mem.tail _ (List.Mem.tail _ (List.Mem.tail _ (List.Mem.tail _ (List.Mem.head _))))) h) ?_
              refine d_ald 229 (show cdA 227 120 = some (.iaload, 1, 0, 0, 0) from rfl) (by decide) rfl (by omega) (show a < 12 by omega) (by decide) (Or.inr ((htn _ (show (a : Int).toNat < 12 by omega) (show (((a : Int).toNat : Nat) : Int) < iI s 90 by omega)).2.1)) ?_
              have b3045 : (0 : Int) ≤ iC t 203 (a).toNat ∧ iC t 203 (a).toNat ≤ 50 := I.2 203 _ (show (a).toNat < 12 by omega)
              have q3046 : iC t 203 (a).toNat = iC s 203 (a).toNat := fm_c F (by decide)
              refine d_lift (fun k ws X h => z_add X (show cdA 227 121 = some (.iadd, 1, 0, 0, 0) from rfl) h) ?_
              refine d_any (fun y3047 hy3047 => ?_)
              refine d_ast 184 (show cdA 227 122 = some (.iastore, 1, 0, 0, 0) from rfl) (by decide) rfl (by omega) (show 2 < 7 by omega) (by decide) (show 161 ∈ _ by decide) (show ((-2147483648) : Int) ≤ y3047 ∧ y3047 ≤ 2147483647 by omega) ⟨by omega, by omega⟩ ?_
              refine d_mono (T' := TU T 161 7) (fun _ h => h) (fun _ _ h => Or.inr h) ?_
              obtain ⟨s3048, hs3048⟩ : ∃ x0, x0 = uC t 161 (2 : Int).toNat (Int32.ofInt y3047) := ⟨_, rfl⟩
              rw [← hs3048]
              have Is3048 : Bd s3048 := by rw [hs3048]; exact bd_C I (show ((-2147483648) : Int) ≤ y3047 ∧ y3047 ≤ 2147483647 by omega) ⟨by omega, by omega⟩
              have Fs3048 := fm_C (i := (2 : Int).toNat) (x := Int32.ofInt y3047) F (show 161 ∈ _ by decide)
              rw [← hs3048] at Fs3048
              have fs3048 : Fm [] [161] t s3048 := by rw [hs3048]; exact fm_C (fm_rf _ _ _) (show 161 ∈ _ by decide)
              have JNW_s3048 : NW s3048 := NW_fm fs3048 (by decide) jjNW
              refine d_lift (fun k ws X h => z_load X (x := (iC t 230 ((iC t (204 + (a : Int).toNat) ((ka - 1) : Int).toNat)).toNat)) (show cdA 227 123 = some (.iload 5, 2, 0, 0, 0) from rfl) (List.Mem.head _) h) ?_
              refine d_br (by omega) (by omega) (fun k ws X h1 h2 => z_if_eq X (t := 172) (show cdA 227 125 = some (.ifCond .eq 47, 3, 0, 0, 0) from rfl) (by decide) ⟨by omega, by omega⟩ h1 h2) (fun g3049 => ?_) (fun g3049 => ?_)
              ·
                refine d_lift (fun k ws X h => z_load_n X (x := a) (show cdA 227 172 = some (.iload_n 1, 1, 0, 0, 0) from rfl) (List.Mem.tail _ (List.Mem.tail _ (List.Mem.tail _ (List.Mem.tail _ (List.Mem.head _))))) h) ?_
                refine d_lift (fun k ws X h => z_const X (show cdA 227 173 = some (.iconst 1, 1, 0, 0, 0) from rfl) h) ?_
                refine d_lift (fun k ws X h => z_add X (show cdA 227 174 = some (.iadd, 1, 0, 0, 0) from rfl) h) ?_
                refine d_lift (fun k ws X h => z_store X (lv' := [(5, .int (Int32.ofInt (a + 1))), (2, .int (Int32.ofInt 1)), (4, .int (Int32.ofInt (iC t (204 + (a : Int).toNat) (ka : Int).toNat))), (0, .ref (A 179)), (1, .int (Int32.ofInt a)), (3, .int (Int32.ofInt ka))]) (show cdA 227 175 = some (.istore 5, 2, 0, 0, 0) from rfl) (by decide) (fun _ h => h) h) ?_
                refine d_lvs (lv := [(0, .ref (A 179)), (1, .int (Int32.ofInt a)), (2, .int (Int32.ofInt 1)), (3, .int (Int32.ofInt ka)), (4, .int (Int32.ofInt (iC t (204 + (a : Int).toNat) (ka : Int).toNat))), (5, .int (Int32.ofInt (a + 1)))]) (List.forall_mem_cons.mpr ⟨(List.Mem.tail _ (List.Mem.tail _ (List.Mem.tail _ (List.Mem.head _)))), (List.forall_mem_cons.mpr ⟨(List.Mem.tail _ (List.Mem.tail _ (List.Mem.tail _ (List.Mem.tail _ (List.Mem.head _))))), (List.forall_mem_cons.mpr ⟨(List.Mem.tail _ (List.Mem.head _)), (List.forall_mem_cons.mpr ⟨(List.Mem.tail _ (List.Mem.tail _ (List.Mem.tail _ (List.Mem.tail _ (List.Mem.tail _ (List.Mem.head _)))))), (List.forall_mem_cons.mpr ⟨(List.Mem.tail _ (List.Mem.tail _ (List.Mem.head _))), (List.forall_mem_cons.mpr ⟨(List.Mem.head _), (fun q h => absurd h List.not_mem_nil)⟩)⟩)⟩)⟩)⟩)⟩) ?_
                refine L177 ((12 - (a + 1) : Int)).toNat s3048 a 1 ka (iC t (204 + (a : Int).toNat) (ka : Int).toNat) (a + 1) Is3048 Fs3048 JNW_s3048 (by omega) (by omega) ?_
                intro s3050 x3051 Is3050 Fs3050 JNW_s3050 hs3050
                have hta3052 : ∀ a ∈ ([161, 230] : List Nat), ∀ j, j < (bA a).2.2 → (TU T 161 7).2 a j := hta_g hta (by decide)
                refine d_lift (fun k ws X h => z_inc X (x := ka) (lv' := [(3, .int (Int32.ofInt (ka + 1))), (0, .ref (A 179)), (1, .int (Int32.ofInt a)), (2, .int (Int32.ofInt 1)), (4, .int (Int32.ofInt (iC t (204 + (a : Int).toNat) (ka : Int).toNat))), (5, .int (Int32.ofInt x3051))]) (show cdA 227 278 = some (.iinc 3 1, 3, 0, 0, 0) from rfl) (by decide) (List.Mem.tail _ (List.Mem.tail _ (List.Mem.tail _ (List.Mem.head _)))) (fun _ h => h) h) ?_
                refine d_lift (fun k ws X h => z_goto X (t := 35) (show cdA 227 281 = some (.goto (-246), 3, 0, 0, 0) from rfl) (by decide) h) ?_
                exfalso
                omega
              ·
                refine d_lift (fun k ws X h => z_aload_n X (x := A 179) (show cdA 227 128 = some (.aload_n 0, 1, 0, 0, 0) from rfl) (List.Mem.tail _ (List.Mem.tail _ (List.Mem.tail _ (List.Mem.head _)))) h) ?_
                refine d_liftS (fun k s X h => s_getR X 179 (show cdA 227 129 = some (.getfield 76, 3, 12, 37, 0) from rfl) (by decide) rfl rfl h) ?_
                refine d_lift (fun k ws X h => z_load X (x := (iC t (204 + (a : Int).toNat) (ka : Int).toNat)) (show cdA 227 132 = some (.iload 4, 2, 0, 0, 0) from rfl) (List.Mem.tail _ (List.Mem.tail _ (List.Mem.head _))) h) ?_
                refine d_zald 258 (show cdA 227 134 = some (.baload, 1, 0, 0, 0) from rfl) (by decide) rfl (by omega) (show (iC t (204 + (a : Int).toNat) (ka : Int).toNat) < 128 by omega) (by decide) (hta3001 230 (by decide) _ (show ((iC t (204 + (a : Int).toNat) (ka : Int).toNat)).toNat < 128 by omega)) ?_
                have b3053 : (0 : Int) ≤ iC s3048 230 ((iC t (204 + (a : Int).toNat) (ka : Int).toNat)).toNat ∧ iC s3048 230 ((iC t (204 + (a : Int).toNat) (ka : Int).toNat)).toNat ≤ 1 := Is3048.2 230 _ (show ((iC t (204 + (a : Int).toNat) (ka : Int).toNat)).toNat < 128 by omega)
                have q3054 : iC s3048 230 ((iC t (204 + (a : Int).toNat) (ka : Int).toNat)).toNat = iC s 230 ((iC t (204 + (a : Int).toNat) (ka : Int).toNat)).toNat := fm_c Fs3048 (by decide)
                refine d_br (by omega) (by omega) (fun k ws X h1 h2 => z_if_eq X (t := 172) (show cdA 227 135 = some (.ifCond .eq 37, 3, 0, 0, 0) from rfl) (by decide) ⟨by omega, by omega⟩ h1 h2) (fun g3055 => ?_) (fun g3055 => ?_)
                ·
                  refine d_lift (fun k ws X h => z_load_n X (x := a) (show cdA 227 172 = some (.iload_n 1, 1, 0, 0, 0) from rfl) (List.Mem.tail _ (List.Mem.tail _ (List.Mem.tail _ (List.Mem.tail _ (List.Mem.head _))))) h) ?_
                  refine d_lift (fun k ws X h => z_const X (show cdA 227 173 = some (.iconst 1, 1, 0, 0, 0) from rfl) h) ?_
                  refine d_lift (fun k ws X h => z_add X (show cdA 227 174 = some (.iadd, 1, 0, 0, 0) from rfl) h) ?_
                  refine d_lift (fun k ws X h => z_store X (lv' := [(5, .int (Int32.ofInt (a + 1))), (2, .int (Int32.ofInt 1)), (4, .int (Int32.ofInt (iC t (204 + (a : Int).toNat) (ka : Int).toNat))), (0, .ref (A 179)), (1, .int (Int32.ofInt a)), (3, .int (Int32.ofInt ka))]) (show cdA 227 175 = some (.istore 5, 2, 0, 0, 0) from rfl) (by decide) (fun _ h => h) h) ?_
                  refine d_lvs (lv := [(0, .ref (A 179)), (1, .int (Int32.ofInt a)), (2, .int (Int32.ofInt 1)), (3, .int (Int32.ofInt ka)), (4, .int (Int32.ofInt (iC t (204 + (a : Int).toNat) (ka : Int).toNat))), (5, .int (Int32.ofInt (a + 1)))]) (List.forall_mem_cons.mpr ⟨(List.Mem.tail _ (List.Mem.tail _ (List.Mem.tail _ (List.Mem.head _)))), (List.forall_mem_cons.mpr ⟨(List.Mem.tail _ (List.Mem.tail _ (List.Mem.tail _ (List.Mem.tail _ (List.Mem.head _))))), (List.forall_mem_cons.mpr ⟨(List.Mem.tail _ (List.Mem.head _)), (List.forall_mem_cons.mpr ⟨(List.Mem.tail _ (List.Mem.tail _ (List.Mem.tail _ (List.Mem.tail _ (List.Mem.tail _ (List.Mem.head _)))))), (List.forall_mem_cons.mpr ⟨(List.Mem.tail _ (List.Mem.tail _ (List.Mem.head _))), (List.forall_mem_cons.mpr ⟨(List.Mem.head _), (fun q h => absurd h List.not_mem_nil)⟩)⟩)⟩)⟩)⟩)⟩) ?_
                  refine L177 ((12 - (a + 1) : Int)).toNat s3048 a 1 ka (iC t (204 + (a : Int).toNat) (ka : Int).toNat) (a + 1) Is3048 Fs3048 JNW_s3048 (by omega) (by omega) ?_
                  intro s3056 x3057 Is3056 Fs3056 JNW_s3056 hs3056
                  have hta3058 : ∀ a ∈ ([161, 230] : List Nat), ∀ j, j < (bA a).2.2 → (TU T 161 7).2 a j := hta_g hta (by decide)
                  refine d_lift (fun k ws X h => z_inc X (x := ka) (lv' := [(3, .int (Int32.ofInt (ka + 1))), (0, .ref (A 179)), (1, .int (Int32.ofInt a)), (2, .int (Int32.ofInt 1)), (4, .int (Int32.ofInt (iC t (204 + (a : Int).toNat) (ka : Int).toNat))), (5, .int (Int32.ofInt x3057))]) (show cdA 227 278 = some (.iinc 3 1, 3, 0, 0, 0) from rfl) (by decide) (List.Mem.tail _ (List.Mem.tail _ (List.Mem.tail _ (List.Mem.head _)))) (fun _ h => h) h) ?_
                  refine d_lift (fun k ws X h => z_goto X (t := 35) (show cdA 227 281 = some (.goto (-246), 3, 0, 0, 0) from rfl) (by decide) h) ?_
                  exfalso
                  omega
                ·
                  refine d_lift (fun k ws X h => z_aload_n X (x := A 179) (show cdA 227 138 = some (.aload_n 0, 1, 0, 0, 0) from rfl) (List.Mem.tail _ (List.Mem.tail _ (List.Mem.tail _ (List.Mem.head _)))) h) ?_
                  refine d_liftS (fun k s X h => s_getR X 179 (show cdA 227 139 = some (.getfield 64, 3, 12, 33, 0) from rfl) (by decide) rfl rfl h) ?_
                  refine d_lift (fun k ws X h => z_load_n X (x := a) (show cdA 227 142 = some (.iload_n 1, 1, 0, 0, 0) from rfl) (List.Mem.tail _ (List.Mem.tail _ (List.Mem.tail _ (List.Mem.tail _ (List.Mem.head _))))) h) ?_
                  refine d_liftS (fun k s X h => z_aald X rw_230 (show cdA 227 143 = some (.aaload, 1, 0, 0, 0) from rfl) (by omega) (show a < 12 by omega) (by decide) h) ?_
                  refine d_lift (fun k ws X h => z_load_n X (x := ka) (show cdA 227 144 = some (.iload_n 3, 1, 0, 0, 0) from rfl) (List.Mem.tail _ (List.Mem.tail _ (List.Mem.tail _ (List.Mem.tail _ (List.Mem.tail _ (List.Mem.head _)))))) h) ?_
                  refine d_lift (fun k ws X h => z_const X (show cdA 227 145 = some (.iconst 1, 1, 0, 0, 0) from rfl) h) ?_
                  refine d_lift (fun k ws X h => z_sub X (show cdA 227 146 = some (.isub, 1, 0, 0, 0) from rfl) h) ?_
                  refine d_ald2 rw_230 (show cdA 227 147 = some (.iaload, 1, 0, 0, 0) from rfl) (show (a : Int).toNat < 12 by omega) (by omega) (show (ka - 1) < 24 by omega) (by decide) (Or.inr ((htn _ (show (a : Int).toNat < 12 by omega) (show (((a : Int).toNat : Nat) : Int) < iI s 90 by omega)).2.2.2 _ (show ((((ka - 1) : Int).toNat : Nat) : Int) < iC s 202 (a : Int).toNat by omega))) ?_
                  have b3059 : (0 : Int) ≤ (iC s3048 (204 + (a : Int).toNat) ((ka - 1) : Int).toNat) ∧ (iC s3048 (204 + (a : Int).toNat) ((ka - 1) : Int).toNat) ≤ 127 := rw_bd rw_230 Is3048 (show (a : Int).toNat < 12 by omega) (show ((ka - 1) : Int).toNat < 24 by omega)
                  refine d_lift (fun k ws X h => z_load X (x := (iC t (204 + (a : Int).toNat) (ka : Int).toNat)) (show cdA 227 148 = some (.iload 4, 2, 0, 0, 0) from rfl) (List.Mem.tail _ (List.Mem.tail _ (List.Mem.head _))) h) ?_
                  refine d_callT (As := [.int (Int32.ofInt (iC s3048 (204 + (a : Int).toNat) ((ka - 1) : Int).toNat)), .int (Int32.ofInt (iC t (204 + (a : Int).toNat) (ka : Int).toNat))]) (st := []) (show cdA 227 150 = some (.invokestatic 312, 3, 225, 1, 0) from rfl) rfl (d_stepOf (T := TU T 161 7) G Is3048 (by omega) (by omega) (fun q h => hti q ((by decide : ∀ q ∈ ([] : List Nat), q ∈ ([90, 89] : List Nat)) q h)) (fun a h => hta3001 a ((by decide : ∀ q ∈ ([] : List Nat), q ∈ ([161, 230] : List Nat)) a h))) ⟨rfl, rfl⟩ ⟨(show 6 + 1 ≤ 8 by omega), (show 8 + (mNL (miB 225) + 11) + 100 ≤ 143 by simp only [show mNL (miB 225) = 2 from rfl]; omega)⟩ (Nat.le_of_ble_eq_true rfl) (by decide) (by decide) (fun ee s3060 hq => ?_) (fun vv s3060 hq => ?_)
                  · obtain ⟨Is3060, Fs3060, e3061, hv, hrs3060, hps3060⟩ := hq; cases hv
                  obtain ⟨Is3060, Fs3060, e3061, hv, hrs3060, hps3060⟩ := hq
                  cases hv
                  have Gs3060 := fm_ts Fs3048 Fs3060 (by decide) (by decide)
                  have JNW_s3060 : NW s3060 := NW_fm Fs3060 (by decide) JNW_s3048
                  show DS l s0 D A dT 227 (rmN 227) [] [161] (TU T 161 7) Q (TU T 161 7) 153 [(5, .int (Int32.ofInt (iC t 230 ((iC t (204 + (a : Int).toNat) ((ka - 1) : Int).toNat)).toNat))), (2, .int (Int32.ofInt 1)), (4, .int (Int32.ofInt (iC t (204 + (a : Int).toNat) (ka : Int).toNat))), (0, .ref (A 179)), (1, .int (Int32.ofInt a)), (3, .int (Int32.ofInt ka))] [.int (Int32.ofInt e3061)] s3060
                  refine d_lift (fun k ws X h => z_const X (show cdA 227 153 = some (.iconst 3, 1, 0, 0, 0) from rfl) h) ?_
                  refine d_br (by omega) (by omega) (fun k ws X h1 h2 => z_icmp_le X (t := 172) (show cdA 227 154 = some (.if_icmp .le 18, 3, 5, 0, 0) from rfl) (by decide) ⟨by omega, by omega⟩ ⟨by omega, by omega⟩ h1 h2) (fun g3062 => ?_) (fun g3062 => ?_)
                  ·
                    refine d_lift (fun k ws X h => z_load_n X (x := a) (show cdA 227 172 = some (.iload_n 1, 1, 0, 0, 0) from rfl) (List.Mem.tail _ (List.Mem.tail _ (List.Mem.tail _ (List.Mem.tail _ (List.Mem.head _))))) h) ?_
                    refine d_lift (fun k ws X h => z_const X (show cdA 227 173 = some (.iconst 1, 1, 0, 0, 0) from rfl) h) ?_
                    refine d_lift (fun k ws X h => z_add X (show cdA 227 174 = some (.iadd, 1, 0, 0, 0) from rfl) h) ?_
                    refine d_lift (fun k ws X h => z_store X (lv' := [(5, .int (Int32.ofInt (a + 1))), (2, .int (Int32.ofInt 1)), (4, .int (Int32.ofInt (iC t (204 + (a : Int).toNat) (ka : Int).toNat))), (0, .ref (A 179)), (1, .int (Int32.ofInt a)), (3, .int (Int32.ofInt ka))]) (show cdA 227 175 = some (.istore 5, 2, 0, 0, 0) from rfl) (by decide) (fun _ h => h) h) ?_
                    refine d_lvs (lv := [(0, .ref (A 179)), (1, .int (Int32.ofInt a)), (2, .int (Int32.ofInt 1)), (3, .int (Int32.ofInt ka)), (4, .int (Int32.ofInt (iC t (204 + (a : Int).toNat) (ka : Int).toNat))), (5, .int (Int32.ofInt (a + 1)))]) (List.forall_mem_cons.mpr ⟨(List.Mem.tail _ (List.Mem.tail _ (List.Mem.tail _ (List.Mem.head _)))), (List.forall_mem_cons.mpr ⟨(List.Mem.tail _ (List.Mem.tail _ (List.Mem.tail _ (List.Mem.tail _ (List.Mem.head _))))), (List.forall_mem_cons.mpr ⟨(List.Mem.tail _ (List.Mem.head _)), (List.forall_mem_cons.mpr ⟨(List.Mem.tail _ (List.Mem.tail _ (List.Mem.tail _ (List.Mem.tail _ (List.Mem.tail _ (List.Mem.head _)))))), (List.forall_mem_cons.mpr ⟨(List.Mem.tail _ (List.Mem.tail _ (List.Mem.head _))), (List.forall_mem_cons.mpr ⟨(List.Mem.head _), (fun q h => absurd h List.not_mem_nil)⟩)⟩)⟩)⟩)⟩)⟩) ?_
                    refine L177 ((12 - (a + 1) : Int)).toNat s3060 a 1 ka (iC t (204 + (a : Int).toNat) (ka : Int).toNat) (a + 1) Is3060 Gs3060 JNW_s3060 (by omega) (by omega) ?_
                    intro s3063 x3064 Is3063 Fs3063 JNW_s3063 hs3063
                    have hta3065 : ∀ a ∈ ([161, 230] : List Nat), ∀ j, j < (bA a).2.2 → (TU T 161 7).2 a j := hta_g hta (by decide)
                    refine d_lift (fun k ws X h => z_inc X (x := ka) (lv' := [(3, .int (Int32.ofInt (ka + 1))), (0, .ref (A 179)), (1, .int (Int32.ofInt a)), (2, .int (Int32.ofInt 1)), (4, .int (Int32.ofInt (iC t (204 + (a : Int).toNat) (ka : Int).toNat))), (5, .int (Int32.ofInt x3064))]) (show cdA 227 278 = some (.iinc 3 1, 3, 0, 0, 0) from rfl) (by decide) (List.Mem.tail _ (List.Mem.tail _ (List.Mem.tail _ (List.Mem.head _)))) (fun _ h => h) h) ?_
                    refine d_lift (fun k ws X h => z_goto X (t := 35) (show cdA 227 281 = some (.goto (-246), 3, 0, 0, 0) from rfl) (by decide) h) ?_
                    exfalso
                    omega
                  ·
                    refine d_lift (fun k ws X h => z_aload_n X (x := A 179) (show cdA 227 157 = some (.aload_n 0, 1, 0, 0, 0) from rfl) (List.Mem.tail _ (List.Mem.tail _ (List.Mem.tail _ (List.Mem.head _)))) h) ?_
                    refine d_liftS (fun k s X h => s_getR X 179 (show cdA 227 158 = some (.getfield 32, 3, 12, 21, 0) from rfl) (by decide) rfl rfl h) ?_
                    refine d_lift (fun k ws X h => z_const X (show cdA 227 161 = some (.iconst 3, 1, 0, 0, 0) from rfl) h) ?_
                    refine d_lift (fun k ws X h => w_dup2_11 X.1 (ax_d X (show cdA 227 162 = some (.dup2, 1, 0, 0, 0) from rfl)) rfl rfl h) ?_
                    refine d_ald 184 (show cdA 227 163 = some (.iaload, 1, 0, 0, 0) from rfl) (by decide) rfl (by omega) (show 3 < 7 by omega) (by decide) (hta3001 161 (by decide) _ (show (3 : Int).toNat < 7 by omega)) ?_
                    have b3066 : ((-2147483648) : Int) ≤ iC s3060 161 (3 : Int).toNat ∧ iC s3060 161 (3 : Int).toNat ≤ 2147483647 := Is3060.2 161 _ (show (3 : Int).toNat < 7 by omega)
                    refine d_lift (fun k ws X h => z_aload_n X (x := A 179) (show cdA 227 164 = some (.aload_n 0, 1, 0, 0, 0) from rfl) (List.Mem.tail _ (List.Mem.tail _ (List.Mem.tail _ (List.Mem.head _)))) h) ?_
                    refine d_liftS (fun k s X h => s_getR X 179 (show cdA 227 165 = some (.getfield 61, 3, 12, 32, 0) from rfl) (by decide) rfl rfl h) ?_
                    refine d_lift (fun k ws X h => z_load_n X (x := a) (show cdA 227 168 = some (.iload_n 1, 1, 0, 0, 0) from rfl) (List.Mem.tail _ (List.Mem.tail _ (List.Mem.tail _ (List.Mem.tail _ (List.Mem.head _))))) h) ?_
                    refine d_ald 229 (show cdA 227 169 = some (.iaload, 1, 0, 0, 0) from rfl) (by decide) rfl (by omega) (show a < 12 by omega) (by decide) (Or.inr ((htn _ (show (a : Int).toNat < 12 by omega) (show (((a : Int).toNat : Nat) : Int) < iI s 90 by omega)).2.1)) ?_
                    have b3067 : (0 : Int) ≤ iC s3060 203 (a).toNat ∧ iC s3060 203 (a).toNat ≤ 50 := Is3060.2 203 _ (show (a).toNat < 12 by omega)
                    have q3068 : iC s3060 203 (a).toNat = iC s 203 (a).toNat := fm_c Gs3060 (by decide)
                    refine d_lift (fun k ws X h => z_add X (show cdA 227 170 = some (.iadd, 1, 0, 0, 0) from rfl) h) ?_
                    refine d_any (fun y3069 hy3069 => ?_)
                    refine d_ast 184 (show cdA 227 171 = some (.iastore, 1, 0, 0, 0) from rfl) (by decide) rfl (by omega) (show 3 < 7 by omega) (by decide) (show 161 ∈ _ by decide) (show ((-2147483648) : Int) ≤ y3069 ∧ y3069 ≤ 2147483647 by omega) ⟨by omega, by omega⟩ ?_
                    refine d_mono (T' := TU T 161 7) (fun _ h => h) (fun _ _ h => Or.inr h) ?_
                    obtain ⟨s3070, hs3070⟩ : ∃ x0, x0 = uC s3060 161 (3 : Int).toNat (Int32.ofInt y3069) := ⟨_, rfl⟩
                    rw [← hs3070]
                    have Is3070 : Bd s3070 := by rw [hs3070]; exact bd_C Is3060 (show ((-2147483648) : Int) ≤ y3069 ∧ y3069 ≤ 2147483647 by omega) ⟨by omega, by omega⟩
                    have Fs3070 := fm_C (i := (3 : Int).toNat) (x := Int32.ofInt y3069) Gs3060 (show 161 ∈ _ by decide)
                    rw [← hs3070] at Fs3070
                    have fs3070 : Fm [] [161] s3060 s3070 := by rw [hs3070]; exact fm_C (fm_rf _ _ _) (show 161 ∈ _ by decide)
                    have JNW_s3070 : NW s3070 := NW_fm fs3070 (by decide) JNW_s3060
                    refine d_lift (fun k ws X h => z_load_n X (x := a) (show cdA 227 172 = some (.iload_n 1, 1, 0, 0, 0) from rfl) (List.Mem.tail _ (List.Mem.tail _ (List.Mem.tail _ (List.Mem.tail _ (List.Mem.head _))))) h) ?_
                    refine d_lift (fun k ws X h => z_const X (show cdA 227 173 = some (.iconst 1, 1, 0, 0, 0) from rfl) h) ?_
                    refine d_lift (fun k ws X h => z_add X (show cdA 227 174 = some (.iadd, 1, 0, 0, 0) from rfl) h) ?_
                    refine d_lift (fun k ws X h => z_store X (lv' := [(5, .int (Int32.ofInt (a + 1))), (2, .int (Int32.ofInt 1)), (4, .int (Int32.ofInt (iC t (204 + (a : Int).toNat) (ka : Int).toNat))), (0, .ref (A 179)), (1, .int (Int32.ofInt a)), (3, .int (Int32.ofInt ka))]) (show cdA 227 175 = some (.istore 5, 2, 0, 0, 0) from rfl) (by decide) (fun _ h => h) h) ?_
                    refine d_lvs (lv := [(0, .ref (A 179)), (1, .int (Int32.ofInt a)), (2, .int (Int32.ofInt 1)), (3, .int (Int32.ofInt ka)), (4, .int (Int32.ofInt (iC t (204 + (a : Int).toNat) (ka : Int).toNat))), (5, .int (Int32.ofInt (a + 1)))]) (List.forall_mem_cons.mpr ⟨(List.Mem.tail _ (List.Mem.tail _ (List.Mem.tail _ (List.Mem.head _)))), (List.forall_mem_cons.mpr ⟨(List.Mem.tail _ (List.Mem.tail _ (List.Mem.tail _ (List.Mem.tail _ (List.Mem.head _))))), (List.forall_mem_cons.mpr ⟨(List.Mem.tail _ (List.Mem.head _)), (List.forall_mem_cons.mpr ⟨(List.Mem.tail _ (List.Mem.tail _ (List.Mem.tail _ (List.Mem.tail _ (List.Mem.tail _ (List.Mem.head _)))))), (List.forall_mem_cons.mpr ⟨(List.Mem.tail _ (List.Mem.tail _ (List.Mem.head _))), (List.forall_mem_cons.mpr ⟨(List.Mem.head _), (fun q h => absurd h List.not_mem_nil)⟩)⟩)⟩)⟩)⟩)⟩) ?_
                    refine L177 ((12 - (a + 1) : Int)).toNat s3070 a 1 ka (iC t (204 + (a : Int).toNat) (ka : Int).toNat) (a + 1) Is3070 Fs3070 JNW_s3070 (by omega) (by omega) ?_
                    intro s3071 x3072 Is3071 Fs3071 JNW_s3071 hs3071
                    have hta3073 : ∀ a ∈ ([161, 230] : List Nat), ∀ j, j < (bA a).2.2 → (TU T 161 7).2 a j := hta_g hta (by decide)
                    refine d_lift (fun k ws X h => z_inc X (x := ka) (lv' := [(3, .int (Int32.ofInt (ka + 1))), (0, .ref (A 179)), (1, .int (Int32.ofInt a)), (2, .int (Int32.ofInt 1)), (4, .int (Int32.ofInt (iC t (204 + (a : Int).toNat) (ka : Int).toNat))), (5, .int (Int32.ofInt x3072))]) (show cdA 227 278 = some (.iinc 3 1, 3, 0, 0, 0) from rfl) (by decide) (List.Mem.tail _ (List.Mem.tail _ (List.Mem.tail _ (List.Mem.head _)))) (fun _ h => h) h) ?_
                    refine d_lift (fun k ws X h => z_goto X (t := 35) (show cdA 227 281 = some (.goto (-246), 3, 0, 0, 0) from rfl) (by decide) h) ?_
                    exfalso
                    omega
        ·
          refine d_lift (fun k ws X h => z_aload_n X (x := A 179) (show cdA 227 59 = some (.aload_n 0, 1, 0, 0, 0) from rfl) (List.Mem.tail _ (List.Mem.head _)) h) ?_
          refine d_liftS (fun k s X h => s_getR X 179 (show cdA 227 60 = some (.getfield 76, 3, 12, 37, 0) from rfl) (by decide) rfl rfl h) ?_
          refine d_lift (fun k ws X h => z_load X (x := (iC t (204 + (a : Int).toNat) (ka : Int).toNat)) (show cdA 227 63 = some (.iload 4, 2, 0, 0, 0) from rfl) (List.Mem.head _) h) ?_
          refine d_zald 258 (show cdA 227 65 = some (.baload, 1, 0, 0, 0) from rfl) (by decide) rfl (by omega) (show (iC t (204 + (a : Int).toNat) (ka : Int).toNat) < 128 by omega) (by decide) (hta3001 230 (by decide) _ (show ((iC t (204 + (a : Int).toNat) (ka : Int).toNat)).toNat < 128 by omega)) ?_
          have b3074 : (0 : Int) ≤ iC t 230 ((iC t (204 + (a : Int).toNat) (ka : Int).toNat)).toNat ∧ iC t 230 ((iC t (204 + (a : Int).toNat) (ka : Int).toNat)).toNat ≤ 1 := I.2 230 _ (show ((iC t (204 + (a : Int).toNat) (ka : Int).toNat)).toNat < 128 by omega)
          have q3075 : iC t 230 ((iC t (204 + (a : Int).toNat) (ka : Int).toNat)).toNat = iC s 230 ((iC t (204 + (a : Int).toNat) (ka : Int).toNat)).toNat := fm_c F (by decide)
          refine d_br (by omega) (by omega) (fun k ws X h1 h2 => z_if_eq X (t := 73) (show cdA 227 66 = some (.ifCond .eq 7, 3, 0, 0, 0) from rfl) (by decide) ⟨by omega, by omega⟩ h1 h2) (fun g3076 => ?_) (fun g3076 => ?_)
          ·
            refine d_lift (fun k ws X h => z_const X (show cdA 227 73 = some (.iconst 0, 1, 0, 0, 0) from rfl) h) ?_
            refine d_lift (fun k ws X h => z_store_n X (lv' := [(2, .int (Int32.ofInt 0)), (4, .int (Int32.ofInt (iC t (204 + (a : Int).toNat) (ka : Int).toNat))), (0, .ref (A 179)), (1, .int (Int32.ofInt a)), (3, .int (Int32.ofInt ka))]) (show cdA 227 74 = some (.istore_n 2, 1, 0, 0, 0) from rfl) (by decide) (fun _ h => h) h) ?_
            refine d_lift (fun k ws X h => z_load_n X (x := ka) (show cdA 227 75 = some (.iload_n 3, 1, 0, 0, 0) from rfl) (List.Mem.tail _ (List.Mem.tail _ (List.Mem.tail _ (List.Mem.tail _ (List.Mem.head _))))) h) ?_
            refine d_br (by omega) (by omega) (fun k ws X h1 h2 => z_if_le X (t := 172) (show cdA 227 76 = some (.ifCond .le 96, 3, 5, 0, 0) from rfl) (by decide) ⟨by omega, by omega⟩ h1 h2) (fun g3077 => ?_) (fun g3077 => ?_)
            ·
              refine d_lift (fun k ws X h => z_load_n X (x := a) (show cdA 227 172 = some (.iload_n 1, 1, 0, 0, 0) from rfl) (List.Mem.tail _ (List.Mem.tail _ (List.Mem.tail _ (List.Mem.head _)))) h) ?_
              refine d_lift (fun k ws X h => z_const X (show cdA 227 173 = some (.iconst 1, 1, 0, 0, 0) from rfl) h) ?_
              refine d_lift (fun k ws X h => z_add X (show cdA 227 174 = some (.iadd, 1, 0, 0, 0) from rfl) h) ?_
              refine d_lift (fun k ws X h => z_store X (lv' := [(5, .int (Int32.ofInt (a + 1))), (2, .int (Int32.ofInt 0)), (4, .int (Int32.ofInt (iC t (204 + (a : Int).toNat) (ka : Int).toNat))), (0, .ref (A 179)), (1, .int (Int32.ofInt a)), (3, .int (Int32.ofInt ka))]) (show cdA 227 175 = some (.istore 5, 2, 0, 0, 0) from rfl) (by decide) (fun _ h => h) h) ?_
              refine d_lvs (lv := [(0, .ref (A 179)), (1, .int (Int32.ofInt a)), (2, .int (Int32.ofInt 0)), (3, .int (Int32.ofInt ka)), (4, .int (Int32.ofInt (iC t (204 + (a : Int).toNat) (ka : Int).toNat))), (5, .int (Int32.ofInt (a + 1)))]) (List.forall_mem_cons.mpr ⟨(List.Mem.tail _ (List.Mem.tail _ (List.Mem.tail _ (List.Mem.head _)))), (List.forall_mem_cons.mpr ⟨(List.Mem.tail _ (List.Mem.tail _ (List.Mem.tail _ (List.Mem.tail _ (List.Mem.head _))))), (List.forall_mem_cons.mpr ⟨(List.Mem.tail _ (List.Mem.head _)), (List.forall_mem_cons.mpr ⟨(List.Mem.tail _ (List.Mem.tail _ (List.Mem.tail _ (List.Mem.tail _ (List.Mem.tail _ (List.Mem.head _)))))), (List.forall_mem_cons.mpr ⟨(List.Mem.tail _ (List.Mem.tail _ (List.Mem.head _))), (List.forall_mem_cons.mpr ⟨(List.Mem.head _), (fun q h => absurd h List.not_mem_nil)⟩)⟩)⟩)⟩)⟩)⟩) ?_
              refine L177 ((12 - (a + 1) : Int)).toNat t a 0 ka (iC t (204 + (a : Int).toNat) (ka : Int).toNat) (a + 1) I F jjNW (by omega) (by omega) ?_
              intro s3078 x3079 Is3078 Fs3078 JNW_s3078 hs3078
              have hta3080 : ∀ a ∈ ([161, 230] : List Nat), ∀ j, j < (bA a).2.2 → (TU T 161 7).2 a j := hta_g hta (by decide)
              refine d_lift (fun k ws X h => z_inc X (x := ka) (lv' := [(3, .int (Int32.ofInt (ka + 1))), (0, .ref (A 179)), (1, .int (Int32.ofInt a)), (2, .int (Int32.ofInt 0)), (4, .int (Int32.ofInt (iC t (204 + (a : Int).toNat) (ka : Int).toNat))), (5, .int (Int32.ofInt x3079))]) (show cdA 227 278 = some (.iinc 3 1, 3, 0, 0, 0) from rfl) (by decide) (List.Mem.tail _ (List.Mem.tail _ (List.Mem.tail _ (List.Mem.head _)))) (fun _ h => h) h) ?_
              refine d_lift (fun k ws X h => z_goto X (t := 35) (show cdA 227 281 = some (.goto (-246), 3, 0, 0, 0) from rfl) (by decide) h) ?_
              exfalso
              omega
            ·
              refine d_lift (fun k ws X h => z_aload_n X (x := A 179) (show cdA 227 79 = some (.aload_n 0, 1, 0, 0, 0) from rfl) (List.Mem.tail _ (List.Mem.tail _ (List.Mem.head _))) h) ?_
              refine d_liftS (fun k s X h => s_getR X 179 (show cdA 227 80 = some (.getfield 76, 3, 12, 37, 0) from rfl) (by decide) rfl rfl h) ?_
              refine d_lift (fun k ws X h => z_aload_n X (x := A 179) (show cdA 227 83 = some (.aload_n 0, 1, 0, 0, 0) from rfl) (List.Mem.tail _ (List.Mem.tail _ (List.Mem.head _))) h) ?_
              refine d_liftS (fun k s X h => s_getR X 179 (show cdA 227 84 = some (.getfield 64, 3, 12, 33, 0) from rfl) (by decide) rfl rfl h) ?_
              refine d_lift (fun k ws X h => z_load_n X (x := a) (show cdA 227 87 = some (.iload_n 1, 1, 0, 0, 0) from rfl) (List.Mem.tail _ (List.Mem.tail _ (List.Mem.tail _ (List.Mem.head _)))) h) ?_
              refine d_liftS (fun k s X h => z_aald X rw_230 (show cdA 227 88 = some (.aaload, 1, 0, 0, 0) from rfl) (by omega) (show a < 12 by omega) (by decide) h) ?_
              refine d_lift (fun k ws X h => z_load_n X (x := ka) (show cdA 227 89 = some (.iload_n 3, 1, 0, 0, 0) from rfl) (List.Mem.tail _ (List.Mem.tail _ (List.Mem.tail _ (List.Mem.tail _ (List.Mem.head _))))) h) ?_
              refine d_lift (fun k ws X h => z_const X (show cdA 227 90 = some (.iconst 1, 1, 0, 0, 0) from rfl) h) ?_
              refine d_lift (fun k ws X h => z_sub X (show cdA 227 91 = some (.isub, 1, 0, 0, 0) from rfl) h) ?_
              refine d_ald2 rw_230 (show cdA 227 92 = some (.iaload, 1, 0, 0, 0) from rfl) (show (a : Int).toNat < 12 by omega) (by omega) (show (ka - 1) < 24 by omega) (by decide) (Or.inr ((htn _ (show (a : Int).toNat < 12 by omega) (show (((a : Int).toNat : Nat) : Int) < iI s 90 by omega)).2.2.2 _ (show ((((ka - 1) : Int).toNat : Nat) : Int) < iC s 202 (a : Int).toNat by omega))) ?_
              have b3081 : (0 : Int) ≤ (iC t (204 + (a : Int).toNat) ((ka - 1) : Int).toNat) ∧ (iC t (204 + (a : Int).toNat) ((ka - 1) : Int).toNat) ≤ 127 := rw_bd rw_230 I (show (a : Int).toNat < 12 by omega) (show ((ka - 1) : Int).toNat < 24 by omega)
              refine d_zald 258 (show cdA 227 93 = some (.baload, 1, 0, 0, 0) from rfl) (by decide) rfl (by omega) (show (iC t (204 + (a : Int).toNat) ((ka - 1) : Int).toNat) < 128 by omega) (by decide) (hta3001 230 (by decide) _ (show ((iC t (204 + (a : Int).toNat) ((ka - 1) : Int).toNat)).toNat < 128 by omega)) ?_
              have b3082 : (0 : Int) ≤ iC t 230 ((iC t (204 + (a : Int).toNat) ((ka - 1) : Int).toNat)).toNat ∧ iC t 230 ((iC t (204 + (a : Int).toNat) ((ka - 1) : Int).toNat)).toNat ≤ 1 := I.2 230 _ (show ((iC t (204 + (a : Int).toNat) ((ka - 1) : Int).toNat)).toNat < 128 by omega)
              have q3083 : iC t 230 ((iC t (204 + (a : Int).toNat) ((ka - 1) : Int).toNat)).toNat = iC s 230 ((iC t (204 + (a : Int).toNat) ((ka - 1) : Int).toNat)).toNat := fm_c F (by decide)
              refine d_lift (fun k ws X h => z_store X (lv' := [(5, .int (Int32.ofInt (iC t 230 ((iC t (204 + (a : Int).toNat) ((ka - 1) : Int).toNat)).toNat))), (2, .int (Int32.ofInt 0)), (4, .int (Int32.ofInt (iC t (204 + (a : Int).toNat) (ka : Int).toNat))), (0, .ref (A 179)), (1, .int (Int32.ofInt a)), (3, .int (Int32.ofInt ka))]) (show cdA 227 94 = some (.istore 5, 2, 0, 0, 0) from rfl) (by decide) (fun _ h => h) h) ?_
              refine d_lift (fun k ws X h => z_load X (x := (iC t 230 ((iC t (204 + (a : Int).toNat) ((ka - 1) : Int).toNat)).toNat)) (show cdA 227 96 = some (.iload 5, 2, 0, 0, 0) from rfl) (List.Mem.head _) h) ?_
              refine d_lift (fun k ws X h => z_aload_n X (x := A 179) (show cdA 227 98 = some (.aload_n 0, 1, 0, 0, 0) from rfl) (List.Mem.tail _ (List.Mem.tail _ (List.Mem.tail _ (List.Mem.head _)))) h) ?_
              refine d_liftS (fun k s X h => s_getR X 179 (show cdA 227 99 = some (.getfield 76, 3, 12, 37, 0) from rfl) (by decide) rfl rfl h) ?_
              refine d_lift (fun k ws X h => z_load X (x := (iC t (204 + (a : Int).toNat) (ka : Int).toNat)) (show cdA 227 102 = some (.iload 4, 2, 0, 0, 0) from rfl) (List.Mem.tail _ (List.Mem.tail _ (List.Mem.head _))) h) ?_
              refine d_zald 258 (show cdA 227 104 = some (.baload, 1, 0, 0, 0) from rfl) (by decide) rfl (by omega) (show (iC t (204 + (a : Int).toNat) (ka : Int).toNat) < 128 by omega) (by decide) (hta3001 230 (by decide) _ (show ((iC t (204 + (a : Int).toNat) (ka : Int).toNat)).toNat < 128 by omega)) ?_
              have b3084 : (0 : Int) ≤ iC t 230 ((iC t (204 + (a : Int).toNat) (ka : Int).toNat)).toNat ∧ iC t 230 ((iC t (204 + (a : Int).toNat) (ka : Int).toNat)).toNat ≤ 1 := I.2 230 _ (show ((iC t (204 + (a : Int).toNat) (ka : Int).toNat)).toNat < 128 by omega)
              have q3085 : iC t 230 ((iC t (204 + (a : Int).toNat) (ka : Int).toNat)).toNat = iC s 230 ((iC t (204 + (a : Int).toNat) (ka : Int).toNat)).toNat := fm_c F (by decide)
              refine d_br (by omega) (by omega) (fun k ws X h1 h2 => z_icmp_eq X (t := 123) (show cdA 227 105 = some (.if_icmp .eq 18, 3, 0, 0, 0) from rfl) (by decide) ⟨by omega, by omega⟩ ⟨by omega, by omega⟩ h1 h2) (fun g3086 => ?_) (fun g3086 => ?_)
              ·
                refine d_lift (fun k ws X h => z_load X (x := (iC t 230 ((iC t (204 + (a : Int).toNat) ((ka - 1) : Int).toNat)).toNat)) (show cdA 227 123 = some (.iload 5, 2, 0, 0, 0) from rfl) (List.Mem.head _) h) ?_
                refine d_br (by omega) (by omega) (fun k ws X h1 h2 => z_if_eq X (t := 172) (show cdA 227 125 = some (.ifCond .eq 47, 3, 0, 0, 0) from rfl) (by decide) ⟨by omega, by omega⟩ h1 h2) (fun g3087 => ?_) (fun g3087 => ?_)
                ·
                  refine d_lift (fun k ws X h => z_load_n X (x := a) (show cdA 227 172 = some (.iload_n 1, 1, 0, 0, 0) from rfl) (List.Mem.tail _ (List.Mem.tail _ (List.Mem.tail _ (List.Mem.tail _ (List.Mem.head _))))) h) ?_
                  refine d_lift (fun k ws X h => z_const X (show cdA 227 173 = some (.iconst 1, 1, 0, 0, 0) from rfl) h) ?_
                  refine d_lift (fun k ws X h => z_add X (show cdA 227 174 = some (.iadd, 1, 0, 0, 0) from rfl) h) ?_
                  refine d_lift (fun k ws X h => z_store X (lv' := [(5, .int (Int32.ofInt (a + 1))), (2, .int (Int32.ofInt 0)), (4, .int (Int32.ofInt (iC t (204 + (a : Int).toNat) (ka : Int).toNat))), (0, .ref (A 179)), (1, .int (Int32.ofInt a)), (3, .int (Int32.ofInt ka))]) (show cdA 227 175 = some (.istore 5, 2, 0, 0, 0) from rfl) (by decide) (fun _ h => h) h) ?_
                  refine d_lvs (lv := [(0, .ref (A 179)), (1, .int (Int32.ofInt a)), (2, .int (Int32.ofInt 0)), (3, .int (Int32.ofInt ka)), (4, .int (Int32.ofInt (iC t (204 + (a : Int).toNat) (ka : Int).toNat))), (5, .int (Int32.ofInt (a + 1)))]) (List.forall_mem_cons.mpr ⟨(List.Mem.tail _ (List.Mem.tail _ (List.Mem.tail _ (List.Mem.head _)))), (List.forall_mem_cons.mpr ⟨(List.Mem.tail _ (List.Mem.tail _ (List.Mem.tail _ (List.Mem.tail _ (List.Mem.head _))))), (List.forall_mem_cons.mpr ⟨(List.Mem.tail _ (List.Mem.head _)), (List.forall_mem_cons.mpr ⟨(List.Mem.tail _ (List.Mem.tail _ (List.Mem.tail _ (List.Mem.tail _ (List.Mem.tail _ (List.Mem.head _)))))), (List.forall_mem_cons.mpr ⟨(List.Mem.tail _ (List.Mem.tail _ (List.Mem.head _))), (List.forall_mem_cons.mpr ⟨(List.Mem.head _), (fun q h => absurd h List.not_mem_nil)⟩)⟩)⟩)⟩)⟩)⟩) ?_
                  refine L177 ((12 - (a + 1) : Int)).toNat t a 0 ka (iC t (204 + (a : Int).toNat) (ka : Int).toNat) (a + 1) I F jjNW (by omega) (by omega) ?_
                  intro s3088 x3089 Is3088 Fs3088 JNW_s3088 hs3088
                  have hta3090 : ∀ a ∈ ([161, 230] : List Nat), ∀ j, j < (bA a).2.2 → (TU T 161 7).2 a j := hta_g hta (by decide)
                  refine d_lift (fun k ws X h => z_inc X (x := ka) (lv' := [(3, .int (Int32.ofInt (ka + 1))), (0, .ref (A 179)), (1, .int (Int32.ofInt a)), (2, .int (Int32.ofInt 0)), (4, .int (Int32.ofInt (iC t (204 + (a : Int).toNat) (ka : Int).toNat))), (5, .int (Int32.ofInt x3089))]) (show cdA 227 278 = some (.iinc 3 1, 3, 0, 0, 0) from rfl) (by decide) (List.Mem.tail _ (List.Mem.tail _ (List.Mem.tail _ (List.Mem.head _)))) (fun _ h => h) h) ?_
                  refine d_lift (fun k ws X h => z_goto X (t := 35) (show cdA 227 281 = some (.goto (-246), 3, 0, 0, 0) from rfl) (by decide) h) ?_
                  exfalso
                  omega
                ·
                  refine d_lift (fun k ws X h => z_aload_n X (x := A 179) (show cdA 227 128 = some (.aload_n 0, 1, 0, 0, 0) from rfl) (List.Mem.tail _ (List.Mem.tail _ (List.Mem.tail _ (List.Mem.head _)))) h) ?_
                  refine d_liftS (fun k s X h => s_getR X 179 (show cdA 227 129 = some (.getfield 76, 3, 12, 37, 0) from rfl) (by decide) rfl rfl h) ?_
                  refine d_lift (fun k ws X h => z_load X (x := (iC t (204 + (a : Int).toNat) (ka : Int).toNat)) (show cdA 227 132 = some (.iload 4, 2, 0, 0, 0) from rfl) (List.Mem.tail _ (List.Mem.tail _ (List.Mem.head _))) h) ?_
                  refine d_zald 258 (show cdA 227 134 = some (.baload, 1, 0, 0, 0) from rfl) (by decide) rfl (by omega) (show (iC t (204 + (a : Int).toNat) (ka : Int).toNat) < 128 by omega) (by decide) (hta3001 230 (by decide) _ (show ((iC t (204 + (a : Int).toNat) (ka : Int).toNat)).toNat < 128 by omega)) ?_
                  have b3091 : (0 : Int) ≤ iC t 230 ((iC t (204 + (a : Int).toNat) (ka : Int).toNat)).toNat ∧ iC t 230 ((iC t (204 + (a : Int).toNat) (ka : Int).toNat)).toNat ≤ 1 := I.2 230 _ (show ((iC t (204 + (a : Int).toNat) (ka : Int).toNat)).toNat < 128 by omega)
                  have q3092 : iC t 230 ((iC t (204 + (a : Int).toNat) (ka : Int).toNat)).toNat = iC s 230 ((iC t (204 + (a : Int).toNat) (ka : Int).toNat)).toNat := fm_c F (by decide)
                  refine d_br (by omega) (by omega) (fun k ws X h1 h2 => z_if_eq X (t := 172) (show cdA 227 135 = some (.ifCond .eq 37, 3, 0, 0, 0) from rfl) (by decide) ⟨by omega, by omega⟩ h1 h2) (fun g3093 => ?_) (fun g3093 => ?_)
                  ·
                    refine d_lift (fun k ws X h => z_load_n X (x := a) (show cdA 227 172 = some (.iload_n 1, 1, 0, 0, 0) from rfl) (List.Mem.tail _ (List.Mem.tail _ (List.Mem.tail _ (List.Mem.tail _ (List.Mem.head _))))) h) ?_
                    refine d_lift (fun k ws X h => z_const X (show cdA 227 173 = some (.iconst 1, 1, 0, 0, 0) from rfl) h) ?_
                    refine d_lift (fun k ws X h => z_add X (show cdA 227 174 = some (.iadd, 1, 0, 0, 0) from rfl) h) ?_
                    refine d_lift (fun k ws X h => z_store X (lv' := [(5, .int (Int32.ofInt (a + 1))), (2, .int (Int32.ofInt 0)), (4, .int (Int32.ofInt (iC t (204 + (a : Int).toNat) (ka : Int).toNat))), (0, .ref (A 179)), (1, .int (Int32.ofInt a)), (3, .int (Int32.ofInt ka))]) (show cdA 227 175 = some (.istore 5, 2, 0, 0, 0) from rfl) (by decide) (fun _ h => h) h) ?_
                    refine d_lvs (lv := [(0, .ref (A 179)), (1, .int (Int32.ofInt a)), (2, .int (Int32.ofInt 0)), (3, .int (Int32.ofInt ka)), (4, .int (Int32.ofInt (iC t (204 + (a : Int).toNat) (ka : Int).toNat))), (5, .int (Int32.ofInt (a + 1)))]) (List.forall_mem_cons.mpr ⟨(List.Mem.tail _ (List.Mem.tail _ (List.Mem.tail _ (List.Mem.head _)))), (List.forall_mem_cons.mpr ⟨(List.Mem.tail _ (List.Mem.tail _ (List.Mem.tail _ (List.Mem.tail _ (List.Mem.head _))))), (List.forall_mem_cons.mpr ⟨(List.Mem.tail _ (List.Mem.head _)), (List.forall_mem_cons.mpr ⟨(List.Mem.tail _ (List.Mem.tail _ (List.Mem.tail _ (List.Mem.tail _ (List.Mem.tail _ (List.Mem.head _)))))), (List.forall_mem_cons.mpr ⟨(List.Mem.tail _ (List.Mem.tail _ (List.Mem.head _))), (List.forall_mem_cons.mpr ⟨(List.Mem.head _), (fun q h => absurd h List.not_mem_nil)⟩)⟩)⟩)⟩)⟩)⟩) ?_
                    refine L177 ((12 - (a + 1) : Int)).toNat t a 0 ka (iC t (204 + (a : Int).toNat) (ka : Int).toNat) (a + 1) I F jjNW (by omega) (by omega) ?_
                    intro s3094 x3095 Is3094 Fs3094 JNW_s3094 hs3094
                    have hta3096 : ∀ a ∈ ([161, 230] : List Nat), ∀ j, j < (bA a).2.2 → (TU T 161 7).2 a j := hta_g hta (by decide)
                    refine d_lift (fun k ws X h => z_inc X (x := ka) (lv' := [(3, .int (Int32.ofInt (ka + 1))), (0, .ref (A 179)), (1, .int (Int32.ofInt a)), (2, .int (Int32.ofInt 0)), (4, .int (Int32.ofInt (iC t (204 + (a : Int).toNat) (ka : Int).toNat))), (5, .int (Int32.ofInt x3095))]) (show cdA 227 278 = some (.iinc 3 1, 3, 0, 0, 0) from rfl) (by decide) (List.Mem.tail _ (List.Mem.tail _ (List.Mem.tail _ (List.Mem.head _)))) (fun _ h => h) h) ?_
                    refine d_lift (fun k ws X h => z_goto X (t := 35) (show cdA 227 281 = some (.goto (-246), 3, 0, 0, 0) from rfl) (by decide) h) ?_
                    exfalso
                    omega
                  ·
                    refine d_lift (fun k ws X h => z_aload_n X (x := A 179) (show cdA 227 138 = some (.aload_n 0, 1, 0, 0, 0) from rfl) (List.Mem.tail _ (List.Mem.tail _ (List.Mem.tail _ (List.Mem.head _)))) h) ?_
                    refine d_liftS (fun k s X h => s_getR X 179 (show cdA 227 139 = some (.getfield 64, 3, 12, 33, 0) from rfl) (by decide) rfl rfl h) ?_
                    refine d_lift (fun k ws X h => z_load_n X (x := a) (show cdA 227 142 = some (.iload_n 1, 1, 0, 0, 0) from rfl) (List.Mem.tail _ (List.Mem.tail _ (List.Mem.tail _ (List.Mem.tail _ (List.Mem.head _))))) h) ?_
                    refine d_liftS (fun k s X h => z_aald X rw_230 (show cdA 227 143 = some (.aaload, 1, 0, 0, 0) from rfl) (by omega) (show a < 12 by omega) (by decide) h) ?_
                    refine d_lift (fun k ws X h => z_load_n X (x := ka) (show cdA 227 144 = some (.iload_n 3, 1, 0, 0, 0) from rfl) (List.Mem.tail _ (List.Mem.tail _ (List.Mem.tail _ (List.Mem.tail _ (List.Mem.tail _ (List.Mem.head _)))))) h) ?_
                    refine d_lift (fun k ws X h => z_const X (show cdA 227 145 = some (.iconst 1, 1, 0, 0, 0) from rfl) h) ?_
                    refine d_lift (fun k ws X h => z_sub X (show cdA 227 146 = some (.isub, 1, 0, 0, 0) from rfl) h) ?_
                    refine d_ald2 rw_230 (show cdA 227 147 = some (.iaload, 1, 0, 0, 0) from rfl) (show (a : Int).toNat < 12 by omega) (by omega) (show (ka - 1) < 24 by omega) (by decide) (Or.inr ((htn _ (show (a : Int).toNat < 12 by omega) (show (((a : Int).toNat : Nat) : Int) < iI s 90 by omega)).2.2.2 _ (show ((((ka - 1) : Int).toNat : Nat) : Int) < iC s 202 (a : Int).toNat by omega))) ?_
                    have b3097 : (0 : Int) ≤ (iC t (204 + (a : Int).toNat) ((ka - 1) : Int).toNat) ∧ (iC t (204 + (a : Int).toNat) ((ka - 1) : Int).toNat) ≤ 127 := rw_bd rw_230 I (show (a : Int).toNat < 12 by omega) (show ((ka - 1) : Int).toNat < 24 by omega)
                    refine d_lift (fun k ws X h => z_load X (x := (iC t (204 + (a : Int).toNat) (ka : Int).toNat)) (show cdA 227 148 = some (.iload 4, 2, 0, 0, 0) from rfl) (List.Mem.tail _ (List.Mem.tail _ (List.Mem.head _))) h) ?_
                    refine d_callT (As := [.int (Int32.ofInt (iC t (204 + (a : Int).toNat) ((ka - 1) : Int).toNat)), .int (Int32.ofInt (iC t (204 + (a : Int).toNat) (ka : Int).toNat))]) (st := []) (show cdA 227 150 = some (.invokestatic 312, 3, 225, 1, 0) from rfl) rfl (d_stepOf (T := TU T 161 7) G I (by omega) (by omega) (fun q h => hti q ((by decide : ∀ q ∈ ([] : List Nat), q ∈ ([90, 89] : List Nat)) q h)) (fun a h => hta3001 a ((by decide : ∀ q ∈ ([] : List Nat), q ∈ ([161, 230] : List Nat)) a h))) ⟨rfl, rfl⟩ ⟨(show 6 + 1 ≤ 8 by omega), (show 8 + (mNL (miB 225) + 11) + 100 ≤ 143 by simp only [show mNL (miB 225) = 2 from rfl]; omega)⟩ (Nat.le_of_ble_eq_true rfl) (by decide) (by decide) (fun ee s3098 hq => ?_) (fun vv s3098 hq => ?_)
                    · obtain ⟨Is3098, Fs3098, e3099, hv, hrs3098, hps3098⟩ := hq; cases hv
                    obtain ⟨Is3098, Fs3098, e3099, hv, hrs3098, hps3098⟩ := hq
                    cases hv
                    have Gs3098 := fm_ts F Fs3098 (by decide) (by decide)
                    have JNW_s3098 : NW s3098 := NW_fm Fs3098 (by decide) jjNW
                    show DS l s0 D A dT 227 (rmN 227) [] [161] (TU T 161 7) Q (TU T 161 7) 153 [(5, .int (Int32.ofInt (iC t 230 ((iC t (204 + (a : Int).toNat) ((ka - 1) : Int).toNat)).toNat))), (2, .int (Int32.ofInt 0)), (4, .int (Int32.ofInt (iC t (204 + (a : Int).toNat) (ka : Int).toNat))), (0, .ref (A 179)), (1, .int (Int32.ofInt a)), (3, .int (Int32.ofInt ka))] [.int (Int32.ofInt e3099)] s3098
                    refine d_lift (fun k ws X h => z_const X (show cdA 227 153 = some (.iconst 3, 1, 0, 0, 0) from rfl) h) ?_
                    refine d_br (by omega) (by omega) (fun k ws X h1 h2 => z_icmp_le X (t := 172) (show cdA 227 154 = some (.if_icmp .le 18, 3, 5, 0, 0) from rfl) (by decide) ⟨by omega, by omega⟩ ⟨by omega, by omega⟩ h1 h2) (fun g3100 => ?_) (fun g3100 => ?_)
                    ·
                      refine d_lift (fun k ws X h => z_load_n X (x := a) (show cdA 227 172 = some (.iload_n 1, 1, 0, 0, 0) from rfl) (List.Mem.tail _ (List.Mem.tail _ (List.Mem.tail _ (List.Mem.tail _ (List.Mem.head _))))) h) ?_
                      refine d_lift (fun k ws X h => z_const X (show cdA 227 173 = some (.iconst 1, 1, 0, 0, 0) from rfl) h) ?_
                      refine d_lift (fun k ws X h => z_add X (show cdA 227 174 = some (.iadd, 1, 0, 0, 0) from rfl) h) ?_
                      refine d_lift (fun k ws X h => z_store X (lv' := [(5, .int (Int32.ofInt (a + 1))), (2, .int (Int32.ofInt 0)), (4, .int (Int32.ofInt (iC t (204 + (a : Int).toNat) (ka : Int).toNat))), (0, .ref (A 179)), (1, .int (Int32.ofInt a)), (3, .int (Int32.ofInt ka))]) (show cdA 227 175 = some (.istore 5, 2, 0, 0, 0) from rfl) (by decide) (fun _ h => h) h) ?_
                      refine d_lvs (lv := [(0, .ref (A 179)), (1, .int (Int32.ofInt a)), (2, .int (Int32.ofInt 0)), (3, .int (Int32.ofInt ka)), (4, .int (Int32.ofInt (iC t (204 + (a : Int).toNat) (ka : Int).toNat))), (5, .int (Int32.ofInt (a + 1)))]) (List.forall_mem_cons.mpr ⟨(List.Mem.tail _ (List.Mem.tail _ (List.Mem.tail _ (List.Mem.head _)))), (List.forall_mem_cons.mpr ⟨(List.Mem.tail _ (List.Mem.tail _ (List.Mem.tail _ (List.Mem.tail _ (List.Mem.head _))))), (List.forall_mem_cons.mpr ⟨(List.Mem.tail _ (List.Mem.head _)), (List.forall_mem_cons.mpr ⟨(List.Mem.tail _ (List.Mem.tail _ (List.Mem.tail _ (List.Mem.tail _ (List.Mem.tail _ (List.Mem.head _)))))), (List.forall_mem_cons.mpr ⟨(List.Mem.tail _ (List.Mem.tail _ (List.Mem.head _))), (List.forall_mem_cons.mpr ⟨(List.Mem.head _), (fun q h => absurd h List.not_mem_nil)⟩)⟩)⟩)⟩)⟩)⟩) ?_
                      refine L177 ((12 - (a + 1) : Int)).toNat s3098 a 0 ka (iC t (204 + (a : Int).toNat) (ka : Int).toNat) (a + 1) Is3098 Gs3098 JNW_s3098 (by omega) (by omega) ?_
                      intro s3101 x3102 Is3101 Fs3101 JNW_s3101 hs3101
                      have hta3103 : ∀ a ∈ ([161, 230] : List Nat), ∀ j, j < (bA a).2.2 → (TU T 161 7).2 a j := hta_g hta (by decide)
                      refine d_lift (fun k ws X h => z_inc X (x := ka) (lv' := [(3, .int (Int32.ofInt (ka + 1))), (0, .ref (A 179)), (1, .int (Int32.ofInt a)), (2, .int (Int32.ofInt 0)), (4, .int (Int32.ofInt (iC t (204 + (a : Int).toNat) (ka : Int).toNat))), (5, .int (Int32.ofInt x3102))]) (show cdA 227 278 = some (.iinc 3 1, 3, 0, 0, 0) from rfl) (by decide) (List.Mem.tail _ (List.Mem.tail _ (List.Mem.tail _ (List.Mem.head _)))) (fun _ h => h) h) ?_
                      refine d_lift (fun k ws X h => z_goto X (t := 35) (show cdA 227 281 = some (.goto (-246), 3, 0, 0, 0) from rfl) (by decide) h) ?_
                      exfalso
                      omega
                    ·
                      refine d_lift (fun k ws X h => z_aload_n X (x := A 179) (show cdA 227 157 = some (.aload_n 0, 1, 0, 0, 0) from rfl) (List.Mem.tail _ (List.Mem.tail _ (List.Mem.tail _ (List.Mem.head _)))) h) ?_
                      refine d_liftS (fun k s X h => s_getR X 179 (show cdA 227 158 = some (.getfield 32, 3, 12, 21, 0) from rfl) (by decide) rfl rfl h) ?_
                      refine d_lift (fun k ws X h => z_const X (show cdA 227 161 = some (.iconst 3, 1, 0, 0, 0) from rfl) h) ?_
                      refine d_lift (fun k ws X h => w_dup2_11 X.1 (ax_d X (show cdA 227 162 = some (.dup2, 1, 0, 0, 0) from rfl)) rfl rfl h) ?_
                      refine d_ald 184 (show cdA 227 163 = some (.iaload, 1, 0, 0, 0) from rfl) (by decide) rfl (by omega) (show 3 < 7 by omega) (by decide) (hta3001 161 (by decide) _ (show (3 : Int).toNat < 7 by omega)) ?_
                      have b3104 : ((-2147483648) : Int) ≤ iC s3098 161 (3 : Int).toNat ∧ iC s3098 161 (3 : Int).toNat ≤ 2147483647 := Is3098.2 161 _ (show (3 : Int).toNat < 7 by omega)
                      refine d_lift (fun k ws X h => z_aload_n X (x := A 179) (show cdA 227 164 = some (.aload_n 0, 1, 0, 0, 0) from rfl) (List.Mem.tail _ (List.Mem.tail _ (List.Mem.tail _ (List.Mem.head _)))) h) ?_
                      refine d_liftS (fun k s X h => s_getR X 179 (show cdA 227 165 = some (.getfield 61, 3, 12, 32, 0) from rfl) (by decide) rfl rfl h) ?_
                      refine d_lift (fun k ws X h => z_load_n X (x := a) (show cdA 227 168 = some (.iload_n 1, 1, 0, 0, 0) from rfl) (List.Mem.tail _ (List.Mem.tail _ (List.Mem.tail _ (List.Mem.tail _ (List.Mem.head _))))) h) ?_
                      refine d_ald 229 (show cdA 227 169 = some (.iaload, 1, 0, 0, 0) from rfl) (by decide) rfl (by omega) (show a < 12 by omega) (by decide) (Or.inr ((htn _ (show (a : Int).toNat < 12 by omega) (show (((a : Int).toNat : Nat) : Int) < iI s 90 by omega)).2.1)) ?_
                      have b3105 : (0 : Int) ≤ iC s3098 203 (a).toNat ∧ iC s3098 203 (a).toNat ≤ 50 := Is3098.2 203 _ (show (a).toNat < 12 by omega)
                      have q3106 : iC s3098 203 (a).toNat = iC s 203 (a).toNat := fm_c Gs3098 (by decide)
                      refine d_lift (fun k ws X h => z_add X (show cdA 227 170 = some (.iadd, 1, 0, 0, 0) from rfl) h) ?_
                      refine d_any (fun y3107 hy3107 => ?_)
                      refine d_ast 184 (show cdA 227 171 = some (.iastore, 1, 0, 0, 0) from rfl) (by decide) rfl (by omega) (show 3 < 7 by omega) (by decide) (show 161 ∈ _ by decide) (show ((-2147483648) : Int) ≤ y3107 ∧ y3107 ≤ 2147483647 by omega) ⟨by omega, by omega⟩ ?_
                      refine d_mono (T' := TU T 161 7) (fun _ h => h) (fun _ _ h => Or.inr h) ?_
                      obtain ⟨s3108, hs3108⟩ : ∃ x0, x0 = uC s3098 161 (3 : Int).toNat (Int32.ofInt y3107) := ⟨_, rfl⟩
                      rw [← hs3108]
                      have Is3108 : Bd s3108 := by rw [hs3108]; exact bd_C Is3098 (show ((-2147483648) : Int) ≤ y3107 ∧ y3107 ≤ 2147483647 by omega) ⟨by omega, by omega⟩
                      have Fs3108 := fm_C (i := (3 : Int).toNat) (x := Int32.ofInt y3107) Gs3098 (show 161 ∈ _ by decide)
                      rw [← hs3108] at Fs3108
                      have fs3108 : Fm [] [161] s3098 s3108 := by rw [hs3108]; exact fm_C (fm_rf _ _ _) (show 161 ∈ _ by decide)
                      have JNW_s3108 : NW s3108 := NW_fm fs3108 (by decide) JNW_s3098
                      refine d_lift (fun k ws X h => z_load_n X (x := a) (show cdA 227 172 = some (.iload_n 1, 1, 0, 0, 0) from rfl) (List.Mem.tail _ (List.Mem.tail _ (List.Mem.tail _ (List.Mem.tail _ (List.Mem.head _))))) h) ?_
                      refine d_lift (fun k ws X h => z_const X (show cdA 227 173 = some (.iconst 1, 1, 0, 0, 0) from rfl) h) ?_
                      refine d_lift (fun k ws X h => z_add X (show cdA 227 174 = some (.iadd, 1, 0, 0, 0) from rfl) h) ?_
                      refine d_lift (fun k ws X h => z_store X (lv' := [(5, .int (Int32.ofInt (a + 1))), (2, .int (Int32.ofInt 0)), (4, .int (Int32.ofInt (iC t (204 + (a : Int).toNat) (ka : Int).toNat))), (0, .ref (A 179)), (1, .int (Int32.ofInt a)), (3, .int (Int32.ofInt ka))]) (show cdA 227 175 = some (.istore 5, 2, 0, 0, 0) from rfl) (by decide) (fun _ h => h) h) ?_
                      refine d_lvs (lv := [(0, .ref (A 179)), (1, .int (Int32.ofInt a)), (2, .int (Int32.ofInt 0)), (3, .int (Int32.ofInt ka)), (4, .int (Int32.ofInt (iC t (204 + (a : Int).toNat) (ka : Int).toNat))), (5, .int (Int32.ofInt (a + 1)))]) (List.forall_mem_cons.mpr ⟨(List.Mem.tail _ (List.Mem.tail _ (List.Mem.tail _ (List.Mem.head _)))), (List.forall_mem_cons.mpr ⟨(List.Mem.tail _ (List.Mem.tail _ (List.Mem.tail _ (List.Mem.tail _ (List.Mem.head _))))), (List.forall_mem_cons.mpr ⟨(List.Mem.tail _ (List.Mem.head _)), (List.forall_mem_cons.mpr ⟨(List.Mem.tail _ (List.Mem.tail _ (List.Mem.tail _ (List.Mem.tail _ (List.Mem.tail _ (List.Mem.head _)))))), (List.forall_mem_cons.mpr ⟨(List.Mem.tail _ (List.Mem.tail _ (List.Mem.head _))), (List.forall_mem_cons.mpr ⟨(List.Mem.head _), (fun q h => absurd h List.not_mem_nil)⟩)⟩)⟩)⟩)⟩)⟩) ?_
                      refine L177 ((12 - (a + 1) : Int)).toNat s3108 a 0 ka (iC t (204 + (a : Int).toNat) (ka : Int).toNat) (a + 1) Is3108 Fs3108 JNW_s3108 (by omega) (by omega) ?_
                      intro s3109 x3110 Is3109 Fs3109 JNW_s3109 hs3109
                      have hta3111 : ∀ a ∈ ([161, 230] : List Nat), ∀ j, j < (bA a).2.2 → (TU T 161 7).2 a j := hta_g hta (by decide)
                      refine d_lift (fun k ws X h => z_inc X (x := ka) (lv' := [(3, .int (Int32.ofInt (ka + 1))), (0, .ref (A 179)), (1, .int (Int32.ofInt a)), (2, .int (Int32.ofInt 0)), (4, .int (Int32.ofInt (iC t (204 + (a : Int).toNat) (ka : Int).toNat))), (5, .int (Int32.ofInt x3110))]) (show cdA 227 278 = some (.iinc 3 1, 3, 0, 0, 0) from rfl) (by decide) (List.Mem.tail _ (List.Mem.tail _ (List.Mem.tail _ (List.Mem.head _)))) (fun _ h => h) h) ?_
                      refine d_lift (fun k ws X h => z_goto X (t := 35) (show cdA 227 281 = some (.goto (-246), 3, 0, 0, 0) from rfl) (by decide) h) ?_
                      exfalso
                      omega
              ·
                refine d_lift (fun k ws X h => z_aload_n X (x := A 179) (show cdA 227 108 = some (.aload_n 0, 1, 0, 0, 0) from rfl) (List.Mem.tail _ (List.Mem.tail _ (List.Mem.tail _ (List.Mem.head _)))) h) ?_
                refine d_liftS (fun k s X h => s_getR X 179 (show cdA 227 109 = some (.getfield 32, 3, 12, 21, 0) from rfl) (by decide) rfl rfl h) ?_
                refine d_lift (fun k ws X h => z_const X (show cdA 227 112 = some (.iconst 2, 1, 0, 0, 0) from rfl) h) ?_
                refine d_lift (fun k ws X h => w_dup2_11 X.1 (ax_d X (show cdA 227 113 = some (.dup2, 1, 0, 0, 0) from rfl)) rfl rfl h) ?_
                refine d_ald 184 (show cdA 227 114 = some (.iaload, 1, 0, 0, 0) from rfl) (by decide) rfl (by omega) (show 2 < 7 by omega) (by decide) (hta3001 161 (by decide) _ (show (2 : Int).toNat < 7 by omega)) ?_
                have b3112 : ((-2147483648) : Int) ≤ iC t 161 (2 : Int).toNat ∧ iC t 161 (2 : Int).toNat ≤ 2147483647 := I.2 161 _ (show (2 : Int).toNat < 7 by omega)
                refine d_lift (fun k ws X h => z_aload_n X (x := A 179) (show cdA 227 115 = some (.aload_n 0, 1, 0, 0, 0) from rfl) (List.Mem.tail _ (List.Mem.tail _ (List.Mem.tail _ (List.Mem.head _)))) h) ?_
                refine d_liftS (fun k s X h => s_getR X 179 (show cdA 227 116 = some (.getfield 61, 3, 12, 32, 0) from rfl) (by decide) rfl rfl h) ?_
                refine d_lift (fun k ws X h => z_load_n X (x := a) (show cdA 227 119 = some (.iload_n 1, 1, 0, 0, 0) from rfl) (List.Mem.tail _ (List.Mem.tail _ (List.Mem.tail _ (List.Mem.tail _ (List.Mem.head _))))) h) ?_
                refine d_ald 229 (show cdA 227 120 = some (.iaload, 1, 0, 0, 0) from rfl) (by decide) rfl (by omega) (show a < 12 by omega) (by decide) (Or.inr ((htn _ (show (a : Int).toNat < 12 by omega) (show (((a : Int).toNat : Nat) : Int) < iI s 90 by omega)).2.1)) ?_
                have b3113 : (0 : Int) ≤ iC t 203 (a).toNat ∧ iC t 203 (a).toNat ≤ 50 := I.2 203 _ (show (a).toNat < 12 by omega)
                have q3114 : iC t 203 (a).toNat = iC s 203 (a).toNat := fm_c F (by decide)
                refine d_lift (fun k ws X h => z_add X (show cdA 227 121 = some (.iadd, 1, 0, 0, 0) from rfl) h) ?_
                refine d_any (fun y3115 hy3115 => ?_)
                refine d_ast 184 (show cdA 227 122 = some (.iastore, 1, 0, 0, 0) from rfl) (by decide) rfl (by omega) (show 2 < 7 by omega) (by decide) (show 161 ∈ _ by decide) (show ((-2147483648) : Int) ≤ y3115 ∧ y3115 ≤ 2147483647 by omega) ⟨by omega, by omega⟩ ?_
                refine d_mono (T' := TU T 161 7) (fun _ h => h) (fun _ _ h => Or.inr h) ?_
                obtain ⟨s3116, hs3116⟩ : ∃ x0, x0 = uC t 161 (2 : Int).toNat (Int32.ofInt y3115) := ⟨_, rfl⟩
                rw [← hs3116]
                have Is3116 : Bd s3116 := by rw [hs3116]; exact bd_C I (show ((-2147483648) : Int) ≤ y3115 ∧ y3115 ≤ 2147483647 by omega) ⟨by omega, by omega⟩
                have Fs3116 := fm_C (i := (2 : Int).toNat) (x := Int32.ofInt y3115) F (show 161 ∈ _ by decide)
                rw [← hs3116] at Fs3116
                have fs3116 : Fm [] [161] t s3116 := by rw [hs3116]; exact fm_C (fm_rf _ _ _) (show 161 ∈ _ by decide)
                have JNW_s3116 : NW s3116 := NW_fm fs3116 (by decide) jjNW
                refine d_lift (fun k ws X h => z_load X (x := (iC t 230 ((iC t (204 + (a : Int).toNat) ((ka - 1) : Int).toNat)).toNat)) (show cdA 227 123 = some (.iload 5, 2, 0, 0, 0) from rfl) (List.Mem.head _) h) ?_
                refine d_br (by omega) (by omega) (fun k ws X h1 h2 => z_if_eq X (t := 172) (show cdA 227 125 = some (.ifCond .eq 47, 3, 0, 0, 0) from rfl) (by decide) ⟨by omega, by omega⟩ h1 h2) (fun g3117 => ?_) (fun g3117 => ?_)
                ·
                  refine d_lift (fun k ws X h => z_load_n X (x := a) (show cdA 227 172 = some (.iload_n 1, 1, 0, 0, 0) from rfl) (List.Mem.tail _ (List.Mem.tail _ (List.Mem.tail _ (List.Mem.tail _ (List.Mem.head _))))) h) ?_
                  refine d_lift (fun k ws X h => z_const X (show cdA 227 173 = some (.iconst 1, 1, 0, 0, 0) from rfl) h) ?_
                  refine d_lift (fun k ws X h => z_add X (show cdA 227 174 = some (.iadd, 1, 0, 0, 0) from rfl) h) ?_
                  refine d_lift (fun k ws X h => z_store X (lv' := [(5, .int (Int32.ofInt (a + 1))), (2, .int (Int32.ofInt 0)), (4, .int (Int32.ofInt (iC t (204 + (a : Int).toNat) (ka : Int).toNat))), (0, .ref (A 179)), (1, .int (Int32.ofInt a)), (3, .int (Int32.ofInt ka))]) (show cdA 227 175 = some (.istore 5, 2, 0, 0, 0) from rfl) (by decide) (fun _ h => h) h) ?_
                  refine d_lvs (lv := [(0, .ref (A 179)), (1, .int (Int32.ofInt a)), (2, .int (Int32.ofInt 0)), (3, .int (Int32.ofInt ka)), (4, .int (Int32.ofInt (iC t (204 + (a : Int).toNat) (ka : Int).toNat))), (5, .int (Int32.ofInt (a + 1)))]) (List.forall_mem_cons.mpr ⟨(List.Mem.tail _ (List.Mem.tail _ (List.Mem.tail _ (List.Mem.head _)))), (List.forall_mem_cons.mpr ⟨(List.Mem.tail _ (List.Mem.tail _ (List.Mem.tail _ (List.Mem.tail _ (List.Mem.head _))))), (List.forall_mem_cons.mpr ⟨(List.Mem.tail _ (List.Mem.head _)), (List.forall_mem_cons.mpr ⟨(List.Mem.tail _ (List.Mem.tail _ (List.Mem.tail _ (List.Mem.tail _ (List.Mem.tail _ (List.Mem.head _)))))), (List.forall_mem_cons.mpr ⟨(List.Mem.tail _ (List.Mem.tail _ (List.Mem.head _))), (List.forall_mem_cons.mpr ⟨(List.Mem.head _), (fun q h => absurd h List.not_mem_nil)⟩)⟩)⟩)⟩)⟩)⟩) ?_
                  refine L177 ((12 - (a + 1) : Int)).toNat s3116 a 0 ka (iC t (204 + (a : Int).toNat) (ka : Int).toNat) (a + 1) Is3116 Fs3116 JNW_s3116 (by omega) (by omega) ?_
                  intro s3118 x3119 Is3118 Fs3118 JNW_s3118 hs3118
                  have hta3120 : ∀ a ∈ ([161, 230] : List Nat), ∀ j, j < (bA a).2.2 → (TU T 161 7).2 a j := hta_g hta (by decide)
                  refine d_lift (fun k ws X h => z_inc X (x := ka) (lv' := [(3, .int (Int32.ofInt (ka + 1))), (0, .ref (A 179)), (1, .int (Int32.ofInt a)), (2, .int (Int32.ofInt 0)), (4, .int (Int32.ofInt (iC t (204 + (a : Int).toNat) (ka : Int).toNat))), (5, .int (Int32.ofInt x3119))]) (show cdA 227 278 = some (.iinc 3 1, 3, 0, 0, 0) from rfl) (by decide) (List.Mem.tail _ (List.Mem.tail _ (List.Mem.tail _ (List.Mem.head _)))) (fun _ h => h) h) ?_
                  refine d_lift (fun k ws X h => z_goto X (t := 35) (show cdA 227 281 = some (.goto (-246), 3, 0, 0, 0) from rfl) (by decide) h) ?_
                  exfalso
                  omega
                ·
                  refine d_lift (fun k ws X h => z_aload_n X (x := A 179) (show cdA 227 128 = some (.aload_n 0, 1, 0, 0, 0) from rfl) (List.Mem.tail _ (List.Mem.tail _ (List.Mem.tail _ (List.Mem.head _)))) h) ?_
                  refine d_liftS (fun k s X h => s_getR X 179 (show cdA 227 129 = some (.getfield 76, 3, 12, 37, 0) from rfl) (by decide) rfl rfl h) ?_
                  refine d_lift (fun k ws X h => z_load X (x := (iC t (204 + (a : Int).toNat) (ka : Int).toNat)) (show cdA 227 132 = some (.iload 4, 2, 0, 0, 0) from rfl) (List.Mem.tail _ (List.Mem.tail _ (List.Mem.head _))) h) ?_
                  refine d_zald 258 (show cdA 227 134 = some (.baload, 1, 0, 0, 0) from rfl) (by decide) rfl (by omega) (show (iC t (204 + (a : Int).toNat) (ka : Int).toNat) < 128 by omega) (by decide) (hta3001 230 (by decide) _ (show ((iC t (204 + (a : Int).toNat) (ka : Int).toNat)).toNat < 128 by omega)) ?_
                  have b3121 : (0 : Int) ≤ iC s3116 230 ((iC t (204 + (a : Int).toNat) (ka : Int).toNat)).toNat ∧ iC s3116 230 ((iC t (204 + (a : Int).toNat) (ka : Int).toNat)).toNat ≤ 1 := Is3116.2 230 _ (show ((iC t (204 + (a : Int).toNat) (ka : Int).toNat)).toNat < 128 by omega)
                  have q3122 : iC s3116 230 ((iC t (204 + (a : Int).toNat) (ka : Int).toNat)).toNat = iC s 230 ((iC t (204 + (a : Int).toNat) (ka : Int).toNat)).toNat := fm_c Fs3116 (by decide)
                  refine d_br (by omega) (by omega) (fun k ws X h1 h2 => z_if_eq X (t := 172) (show cdA 227 135 = some (.ifCond .eq 37, 3, 0, 0, 0) from rfl) (by decide) ⟨by omega, by omega⟩ h1 h2) (fun g3123 => ?_) (fun g3123 => ?_)
                  ·
                    refine d_lift (fun k ws X h => z_load_n X (x := a) (show cdA 227 172 = some (.iload_n 1, 1, 0, 0, 0) from rfl) (List.Mem.tail _ (List.Mem.tail _ (List.Mem.tail _ (List.Mem.tail _ (List.Mem.head _))))) h) ?_
                    refine d_lift (fun k ws X h => z_const X (show cdA 227 173 = some (.iconst 1, 1, 0, 0, 0) from rfl) h) ?_
                    refine d_lift (fun k ws X h => z_add X (show cdA 227 174 = some (.iadd, 1, 0, 0, 0) from rfl) h) ?_
                    refine d_lift (fun k ws X h => z_store X (lv' := [(5, .int (Int32.ofInt (a + 1))), (2, .int (Int32.ofInt 0)), (4, .int (Int32.ofInt (iC t (204 + (a : Int).toNat) (ka : Int).toNat))), (0, .ref (A 179)), (1, .int (Int32.ofInt a)), (3, .int (Int32.ofInt ka))]) (show cdA 227 175 = some (.istore 5, 2, 0, 0, 0) from rfl) (by decide) (fun _ h => h) h) ?_
                    refine d_lvs (lv := [(0, .ref (A 179)), (1, .int (Int32.ofInt a)), (2, .int (Int32.ofInt 0)), (3, .int (Int32.ofInt ka)), (4, .int (Int32.ofInt (iC t (204 + (a : Int).toNat) (ka : Int).toNat))), (5, .int (Int32.ofInt (a + 1)))]) (List.forall_mem_cons.mpr ⟨(List.Mem.tail _ (List.Mem.tail _ (List.Mem.tail _ (List.Mem.head _)))), (List.forall_mem_cons.mpr ⟨(List.Mem.tail _ (List.Mem.tail _ (List.Mem.tail _ (List.Mem.tail _ (List.Mem.head _))))), (List.forall_mem_cons.mpr ⟨(List.Mem.tail _ (List.Mem.head _)), (List.forall_mem_cons.mpr ⟨(List.Mem.tail _ (List.Mem.tail _ (List.Mem.tail _ (List.Mem.tail _ (List.Mem.tail _ (List.Mem.head _)))))), (List.forall_mem_cons.mpr ⟨(List.Mem.tail _ (List.Mem.tail _ (List.Mem.head _))), (List.forall_mem_cons.mpr ⟨(List.Mem.head _), (fun q h => absurd h List.not_mem_nil)⟩)⟩)⟩)⟩)⟩)⟩) ?_
                    refine L177 ((12 - (a + 1) : Int)).toNat s3116 a 0 ka (iC t (204 + (a : Int).toNat) (ka : Int).toNat) (a + 1) Is3116 Fs3116 JNW_s3116 (by omega) (by omega) ?_
                    intro s3124 x3125 Is3124 Fs3124 JNW_s3124 hs3124
                    have hta3126 : ∀ a ∈ ([161, 230] : List Nat), ∀ j, j < (bA a).2.2 → (TU T 161 7).2 a j := hta_g hta (by decide)
                    refine d_lift (fun k ws X h => z_inc X (x := ka) (lv' := [(3, .int (Int32.ofInt (ka + 1))), (0, .ref (A 179)), (1, .int (Int32.ofInt a)), (2, .int (Int32.ofInt 0)), (4, .int (Int32.ofInt (iC t (204 + (a : Int).toNat) (ka : Int).toNat))), (5, .int (Int32.ofInt x3125))]) (show cdA 227 278 = some (.iinc 3 1, 3, 0, 0, 0) from rfl) (by decide) (List.Mem.tail _ (List.Mem.tail _ (List.Mem.tail _ (List.Mem.head _)))) (fun _ h => h) h) ?_
                    refine d_lift (fun k ws X h => z_goto X (t := 35) (show cdA 227 281 = some (.goto (-246), 3, 0, 0, 0) from rfl) (by decide) h) ?_
                    exfalso
                    omega
                  ·
                    refine d_lift (fun k ws X h => z_aload_n X (x := A 179) (show cdA 227 138 = some (.aload_n 0, 1, 0, 0, 0) from rfl) (List.Mem.tail _ (List.Mem.tail _ (List.Mem.tail _ (List.Mem.head _)))) h) ?_
                    refine d_liftS (fun k s X h => s_getR X 179 (show cdA 227 139 = some (.getfield 64, 3, 12, 33, 0) from rfl) (by decide) rfl rfl h) ?_
                    refine d_lift (fun k ws X h => z_load_n X (x := a) (show cdA 227 142 = some (.iload_n 1, 1, 0, 0, 0) from rfl) (List.Mem.tail _ (List.Mem.tail _ (List.Mem.tail _ (List.Mem.tail _ (List.Mem.head _))))) h) ?_
                    refine d_liftS (fun k s X h => z_aald X rw_230 (show cdA 227 143 = some (.aaload, 1, 0, 0, 0) from rfl) (by omega) (show a < 12 by omega) (by decide) h) ?_
                    refine d_lift (fun k ws X h => z_load_n X (x := ka) (show cdA 227 144 = some (.iload_n 3, 1, 0, 0, 0) from rfl) (List.Mem.tail _ (List.Mem.tail _ (List.Mem.tail _ (List.Mem.tail _ (List.Mem.tail _ (List.Mem.head _)))))) h) ?_
                    refine d_lift (fun k ws X h => z_const X (show cdA 227 145 = some (.iconst 1, 1, 0, 0, 0) from rfl) h) ?_
                    refine d_lift (fun k ws X h => z_sub X (show cdA 227 146 = some (.isub, 1, 0, 0, 0) from rfl) h) ?_
                    refine d_ald2 rw_230 (show cdA 227 147 = some (.iaload, 1, 0, 0, 0) from rfl) (show (a : Int).toNat < 12 by omega) (by omega) (show (ka - 1) < 24 by omega) (by decide) (Or.inr ((htn _ (show (a : Int).toNat < 12 by omega) (show (((a : Int).toNat : Nat) : Int) < iI s 90 by omega)).2.2.2 _ (show ((((ka - 1) : Int).toNat : Nat) : Int) < iC s 202 (a : Int).toNat by omega))) ?_
                    have b3127 : (0 : Int) ≤ (iC s3116 (204 + (a : Int).toNat) ((ka - 1) : Int).toNat) ∧ (iC s3116 (204 + (a : Int).toNat) ((ka - 1) : Int).toNat) ≤ 127 := rw_bd rw_230 Is3116 (show (a : Int).toNat < 12 by omega) (show ((ka - 1) : Int).toNat < 24 by omega)
                    refine d_lift (fun k ws X h => z_load X (x := (iC t (204 + (a : Int).toNat) (ka : Int).toNat)) (show cdA 227 148 = some (.iload 4, 2, 0, 0, 0) from rfl) (List.Mem.tail _ (List.Mem.tail _ (List.Mem.head _))) h) ?_
                    refine d_callT (As := [.int (Int32.ofInt (iC s3116 (204 + (a : Int).toNat) ((ka - 1) : Int).toNat)), .int (Int32.ofInt (iC t (204 + (a : Int).toNat) (ka : Int).toNat))]) (st := []) (show cdA 227 150 = some (.invokestatic 312, 3, 225, 1, 0) from rfl) rfl (d_stepOf (T := TU T 161 7) G Is3116 (by omega) (by omega) (fun q h => hti q ((by decide : ∀ q ∈ ([] : List Nat), q ∈ ([90, 89] : List Nat)) q h)) (fun a h => hta3001 a ((by decide : ∀ q ∈ ([] : List Nat), q ∈ ([161, 230] : List Nat)) a h))) ⟨rfl, rfl⟩ ⟨(show 6 + 1 ≤ 8 by omega), (show 8 + (mNL (miB 225) + 11) + 100 ≤ 143 by simp only [show mNL (miB 225) = 2 from rfl]; omega)⟩ (Nat.le_of_ble_eq_true rfl) (by decide) (by decide) (fun ee s3128 hq => ?_) (fun vv s3128 hq => ?_)
                    · obtain ⟨Is3128, Fs3128, e3129, hv, hrs3128, hps3128⟩ := hq; cases hv
                    obtain ⟨Is3128, Fs3128, e3129, hv, hrs3128, hps3128⟩ := hq
                    cases hv
                    have Gs3128 := fm_ts Fs3116 Fs3128 (by decide) (by decide)
                    have JNW_s3128 : NW s3128 := NW_fm Fs3128 (by decide) JNW_s3116
                    show DS l s0 D A dT 227 (rmN 227) [] [161] (TU T 161 7) Q (TU T 161 7) 153 [(5, .int (Int32.ofInt (iC t 230 ((iC t (204 + (a : Int).toNat) ((ka - 1) : Int).toNat)).toNat))), (2, .int (Int32.ofInt 0)), (4, .int (Int32.ofInt (iC t (204 + (a : Int).toNat) (ka : Int).toNat))), (0, .ref (A 179)), (1, .int (Int32.ofInt a)), (3, .int (Int32.ofInt ka))] [.int (Int32.ofInt e3129)] s3128
                    refine d_lift (fun k ws X h => z_const X (show cdA 227 153 = some (.iconst 3, 1, 0, 0, 0) from rfl) h) ?_
                    refine d_br (by omega) (by omega) (fun k ws X h1 h2 => z_icmp_le X (t := 172) (show cdA 227 154 = some (.if_icmp .le 18, 3, 5, 0, 0) from rfl) (by decide) ⟨by omega, by omega⟩ ⟨by omega, by omega⟩ h1 h2) (fun g3130 => ?_) (fun g3130 => ?_)
                    ·
                      refine d_lift (fun k ws X h => z_load_n X (x := a) (show cdA 227 172 = some (.iload_n 1, 1, 0, 0, 0) from rfl) (List.Mem.tail _ (List.Mem.tail _ (List.Mem.tail _ (List.Mem.tail _ (List.Mem.head _))))) h) ?_
                      refine d_lift (fun k ws X h => z_const X (show cdA 227 173 = some (.iconst 1, 1, 0, 0, 0) from rfl) h) ?_
                      refine d_lift (fun k ws X h => z_add X (show cdA 227 174 = some (.iadd, 1, 0, 0, 0) from rfl) h) ?_
                      refine d_lift (fun k ws X h => z_store X (lv' := [(5, .int (Int32.ofInt (a + 1))), (2, .int (Int32.ofInt 0)), (4, .int (Int32.ofInt (iC t (204 + (a : Int).toNat) (ka : Int).toNat))), (0, .ref (A 179)), (1, .int (Int32.ofInt a)), (3, .int (Int32.ofInt ka))]) (show cdA 227 175 = some (.istore 5, 2, 0, 0, 0) from rfl) (by decide) (fun _ h => h) h) ?_
                      refine d_lvs (lv := [(0, .ref (A 179)), (1, .int (Int32.ofInt a)), (2, .int (Int32.ofInt 0)), (3, .int (Int32.ofInt ka)), (4, .int (Int32.ofInt (iC t (204 + (a : Int).toNat) (ka : Int).toNat))), (5, .int (Int32.ofInt (a + 1)))]) (List.forall_mem_cons.mpr ⟨(List.Mem.tail _ (List.Mem.tail _ (List.Mem.tail _ (List.Mem.head _)))), (List.forall_mem_cons.mpr ⟨(List.Mem.tail _ (List.Mem.tail _ (List.Mem.tail _ (List.Mem.tail _ (List.Mem.head _))))), (List.forall_mem_cons.mpr ⟨(List.Mem.tail _ (List.Mem.head _)), (List.forall_mem_cons.mpr ⟨(List.Mem.tail _ (List.Mem.tail _ (List.Mem.tail _ (List.Mem.tail _ (List.Mem.tail _ (List.Mem.head _)))))), (List.forall_mem_cons.mpr ⟨(List.Mem.tail _ (List.Mem.tail _ (List.Mem.head _))), (List.forall_mem_cons.mpr ⟨(List.Mem.head _), (fun q h => absurd h List.not_mem_nil)⟩)⟩)⟩)⟩)⟩)⟩) ?_
                      refine L177 ((12 - (a + 1) : Int)).toNat s3128 a 0 ka (iC t (204 + (a : Int).toNat) (ka : Int).toNat) (a + 1) Is3128 Gs3128 JNW_s3128 (by omega) (by omega) ?_
                      intro s3131 x3132 Is3131 Fs3131 JNW_s3131 hs3131
                      have hta3133 : ∀ a ∈ ([161, 230] : List Nat), ∀ j, j < (bA a).2.2 → (TU T 161 7).2 a j := hta_g hta (by decide)
                      refine d_lift (fun k ws X h => z_inc X (x := ka) (lv' := [(3, .int (Int32.ofInt (ka + 1))), (0, .ref (A 179)), (1, .int (Int32.ofInt a)), (2, .int (Int32.ofInt 0)), (4, .int (Int32.ofInt (iC t (204 + (a : Int).toNat) (ka : Int).toNat))), (5, .int (Int32.ofInt x3132))]) (show cdA 227 278 = some (.iinc 3 1, 3, 0, 0, 0) from rfl) (by decide) (List.Mem.tail _ (List.Mem.tail _ (List.Mem.tail _ (List.Mem.head _)))) (fun _ h => h) h) ?_
                      refine d_lift (fun k ws X h => z_goto X (t := 35) (show cdA 227 281 = some (.goto (-246), 3, 0, 0, 0) from rfl) (by decide) h) ?_
                      exfalso
                      omega
                    ·
                      refine d_lift (fun k ws X h => z_aload_n X (x := A 179) (show cdA 227 157 = some (.aload_n 0, 1, 0, 0, 0) from rfl) (List.Mem.tail _ (List.Mem.tail _ (List.Mem.tail _ (List.Mem.head _)))) h) ?_
                      refine d_liftS (fun k s X h => s_getR X 179 (show cdA 227 158 = some (.getfield 32, 3, 12, 21, 0) from rfl) (by decide) rfl rfl h) ?_
                      refine d_lift (fun k ws X h => z_const X (show cdA 227 161 = some (.iconst 3, 1, 0, 0, 0) from rfl) h) ?_
                      refine d_lift (fun k ws X h => w_dup2_11 X.1 (ax_d X (show cdA 227 162 = some (.dup2, 1, 0, 0, 0) from rfl)) rfl rfl h) ?_
                      refine d_ald 184 (show cdA 227 163 = some (.iaload, 1, 0, 0, 0) from rfl) (by decide) rfl (by omega) (show 3 < 7 by omega) (by decide) (hta3001 161 (by decide) _ (show (3 : Int).toNat < 7 by omega)) ?_
                      have b3134 : ((-2147483648) : Int) ≤ iC s3128 161 (3 : Int).toNat ∧ iC s3128 161 (3 : Int).toNat ≤ 2147483647 := Is3128.2 161 _ (show (3 : Int).toNat < 7 by omega)
                      refine d_lift (fun k ws X h => z_aload_n X (x := A 179) (show cdA 227 164 = some (.aload_n 0, 1, 0, 0, 0) from rfl) (List.Mem.tail _ (List.Mem.tail _ (List.Mem.tail _ (List.Mem.head _)))) h) ?_
                      refine d_liftS (fun k s X h => s_getR X 179 (show cdA 227 165 = some (.getfield 61, 3, 12, 32, 0) from rfl) (by decide) rfl rfl h) ?_
                      refine d_lift (fun k ws X h => z_load_n X (x := a) (show cdA 227 168 = some (.iload_n 1, 1, 0, 0, 0) from rfl) (List.Mem.tail _ (List.Mem.tail _ (List.Mem.tail _ (List.Mem.tail _ (List.Mem.head _))))) h) ?_
                      refine d_ald 229 (show cdA 227 169 = some (.iaload, 1, 0, 0, 0) from rfl) (by decide) rfl (by omega) (show a < 12 by omega) (by decide) (Or.inr ((htn _ (show (a : Int).toNat < 12 by omega) (show (((a : Int).toNat : Nat) : Int) < iI s 90 by omega)).2.1)) ?_
                      have b3135 : (0 : Int) ≤ iC s3128 203 (a).toNat ∧ iC s3128 203 (a).toNat ≤ 50 := Is3128.2 203 _ (show (a).toNat < 12 by omega)
                      have q3136 : iC s3128 203 (a).toNat = iC s 203 (a).toNat := fm_c Gs3128 (by decide)
                      refine d_lift (fun k ws X h => z_add X (show cdA 227 170 = some (.iadd, 1, 0, 0, 0) from rfl) h) ?_
                      refine d_any (fun y3137 hy3137 => ?_)
                      refine d_ast 184 (show cdA 227 171 = some (.iastore, 1, 0, 0, 0) from rfl) (by decide) rfl (by omega) (show 3 < 7 by omega) (by decide) (show 161 ∈ _ by decide) (show ((-2147483648) : Int) ≤ y3137 ∧ y3137 ≤ 2147483647 by omega) ⟨by omega, by omega⟩ ?_
                      refine d_mono (T' := TU T 161 7) (fun _ h => h) (fun _ _ h => Or.inr h) ?_
                      obtain ⟨s3138, hs3138⟩ : ∃ x0, x0 = uC s3128 161 (3 : Int).toNat (Int32.ofInt y3137) := ⟨_, rfl⟩
                      rw [← hs3138]
                      have Is3138 : Bd s3138 := by rw [hs3138]; exact bd_C Is3128 (show ((-2147483648) : Int) ≤ y3137 ∧ y3137 ≤ 2147483647 by omega) ⟨by omega, by omega⟩
                      have Fs3138 := fm_C (i := (3 : Int).toNat) (x := Int32.ofInt y3137) Gs3128 (show 161 ∈ _ by decide)
                      rw [← hs3138] at Fs3138
                      have fs3138 : Fm [] [161] s3128 s3138 := by rw [hs3138]; exact fm_C (fm_rf _ _ _) (show 161 ∈ _ by decide)
                      have JNW_s3138 : NW s3138 := NW_fm fs3138 (by decide) JNW_s3128
                      refine d_lift (fun k ws X h => z_load_n X (x := a) (show cdA 227 172 = some (.iload_n 1, 1, 0, 0, 0) from rfl) (List.Mem.tail _ (List.Mem.tail _ (List.Mem.tail _ (List.Mem.tail _ (List.Mem.head _))))) h) ?_
                      refine d_lift (fun k ws X h => z_const X (show cdA 227 173 = some (.iconst 1, 1, 0, 0, 0) from rfl) h) ?_
                      refine d_lift (fun k ws X h => z_add X (show cdA 227 174 = some (.iadd, 1, 0, 0, 0) from rfl) h) ?_
                      refine d_lift (fun k ws X h => z_store X (lv' := [(5, .int (Int32.ofInt (a + 1))), (2, .int (Int32.ofInt 0)), (4, .int (Int32.ofInt (iC t (204 + (a : Int).toNat) (ka : Int).toNat))), (0, .ref (A 179)), (1, .int (Int32.ofInt a)), (3, .int (Int32.ofInt ka))]) (show cdA 227 175 = some (.istore 5, 2, 0, 0, 0) from rfl) (by decide) (fun _ h => h) h) ?_
                      refine d_lvs (lv := [(0, .ref (A 179)), (1, .int (Int32.ofInt a)), (2, .int (Int32.ofInt 0)), (3, .int (Int32.ofInt ka)), (4, .int (Int32.ofInt (iC t (204 + (a : Int).toNat) (ka : Int).toNat))), (5, .int (Int32.ofInt (a + 1)))]) (List.forall_mem_cons.mpr ⟨(List.Mem.tail _ (List.Mem.tail _ (List.Mem.tail _ (List.Mem.head _)))), (List.forall_mem_cons.mpr ⟨(List.Mem.tail _ (List.Mem.tail _ (List.Mem.tail _ (List.Mem.tail _ (List.Mem.head _))))), (List.forall_mem_cons.mpr ⟨(List.Mem.tail _ (List.Mem.head _)), (List.forall_mem_cons.mpr ⟨(List.Mem.tail _ (List.Mem.tail _ (List.Mem.tail _ (List.Mem.tail _ (List.Mem.tail _ (List.Mem.head _)))))), (List.forall_mem_cons.mpr ⟨(List.Mem.tail _ (List.Mem.tail _ (List.Mem.head _))), (List.forall_mem_cons.mpr ⟨(List.Mem.head _), (fun q h => absurd h List.not_mem_nil)⟩)⟩)⟩)⟩)⟩)⟩) ?_
                      refine L177 ((12 - (a + 1) : Int)).toNat s3138 a 0 ka (iC t (204 + (a : Int).toNat) (ka : Int).toNat) (a + 1) Is3138 Fs3138 JNW_s3138 (by omega) (by omega) ?_
                      intro s3139 x3140 Is3139 Fs3139 JNW_s3139 hs3139
                      have hta3141 : ∀ a ∈ ([161, 230] : List Nat), ∀ j, j < (bA a).2.2 → (TU T 161 7).2 a j := hta_g hta (by decide)
                      refine d_lift (fun k ws X h => z_inc X (x := ka) (lv' := [(3, .int (Int32.ofInt (ka + 1))), (0, .ref (A 179)), (1, .int (Int32.ofInt a)), (2, .int (Int32.ofInt 0)), (4, .int (Int32.ofInt (iC t (204 + (a : Int).toNat) (ka : Int).toNat))), (5, .int (Int32.ofInt x3140))]) (show cdA 227 278 = some (.iinc 3 1, 3, 0, 0, 0) from rfl) (by decide) (List.Mem.tail _ (List.Mem.tail _ (List.Mem.tail _ (List.Mem.head _)))) (fun _ h => h) h) ?_
                      refine d_lift (fun k ws X h => z_goto X (t := 35) (show cdA 227 281 = some (.goto (-246), 3, 0, 0, 0) from rfl) (by decide) h) ?_
                      exfalso
                      omega
          ·
            refine d_lift (fun k ws X h => z_const X (show cdA 227 69 = some (.iconst 1, 1, 0, 0, 0) from rfl) h) ?_
            refine d_lift (fun k ws X h => z_goto X (t := 74) (show cdA 227 70 = some (.goto 4, 3, 0, 0, 0) from rfl) (by decide) h) ?_
            refine d_lift (fun k ws X h => z_store_n X (lv' := [(2, .int (Int32.ofInt 1)), (4, .int (Int32.ofInt (iC t (204 + (a : Int).toNat) (ka : Int).toNat))), (0, .ref (A 179)), (1, .int (Int32.ofInt a)), (3, .int (Int32.ofInt ka))]) (show cdA 227 74 = some (.istore_n 2, 1, 0, 0, 0) from rfl) (by decide) (fun _ h => h) h) ?_
            refine d_lift (fun k ws X h => z_load_n X (x := ka) (show cdA 227 75 = some (.iload_n 3, 1, 0, 0, 0) from rfl) (List.Mem.tail _ (List.Mem.tail _ (List.Mem.tail _ (List.Mem.tail _ (List.Mem.head _))))) h) ?_
            refine d_br (by omega) (by omega) (fun k ws X h1 h2 => z_if_le X (t := 172) (show cdA 227 76 = some (.ifCond .le 96, 3, 5, 0, 0) from rfl) (by decide) ⟨by omega, by omega⟩ h1 h2) (fun g3142 => ?_) (fun g3142 => ?_)
            ·
              refine d_lift (fun k ws X h => z_load_n X (x := a) (show cdA 227 172 = some (.iload_n 1, 1, 0, 0, 0) from rfl) (List.Mem.tail _ (List.Mem.tail _ (List.Mem.tail _ (List.Mem.head _)))) h) ?_
              refine d_lift (fun k ws X h => z_const X (show cdA 227 173 = some (.iconst 1, 1, 0, 0, 0) from rfl) h) ?_
              refine d_lift (fun k ws X h => z_add X (show cdA 227 174 = some (.iadd, 1, 0, 0, 0) from rfl) h) ?_
              refine d_lift (fun k ws X h => z_store X (lv' := [(5, .int (Int32.ofInt (a + 1))), (2, .int (Int32.ofInt 1)), (4, .int (Int32.ofInt (iC t (204 + (a : Int).toNat) (ka : Int).toNat))), (0, .ref (A 179)), (1, .int (Int32.ofInt a)), (3, .int (Int32.ofInt ka))]) (show cdA 227 175 = some (.istore 5, 2, 0, 0, 0) from rfl) (by decide) (fun _ h => h) h) ?_
              refine d_lvs (lv := [(0, .ref (A 179)), (1, .int (Int32.ofInt a)), (2, .int (Int32.ofInt 1)), (3, .int (Int32.ofInt ka)), (4, .int (Int32.ofInt (iC t (204 + (a : Int).toNat) (ka : Int).toNat))), (5, .int (Int32.ofInt (a + 1)))]) (List.forall_mem_cons.mpr ⟨(List.Mem.tail _ (List.Mem.tail _ (List.Mem.tail _ (List.Mem.head _)))), (List.forall_mem_cons.mpr ⟨(List.Mem.tail _ (List.Mem.tail _ (List.Mem.tail _ (List.Mem.tail _ (List.Mem.head _))))), (List.forall_mem_cons.mpr ⟨(List.Mem.tail _ (List.Mem.head _)), (List.forall_mem_cons.mpr ⟨(List.Mem.tail _ (List.Mem.tail _ (List.Mem.tail _ (List.Mem.tail _ (List.Mem.tail _ (List.Mem.head _)))))), (List.forall_mem_cons.mpr ⟨(List.Mem.tail _ (List.Mem.tail _ (List.Mem.head _))), (List.forall_mem_cons.mpr ⟨(List.Mem.head _), (fun q h => absurd h List.not_mem_nil)⟩)⟩)⟩)⟩)⟩)⟩) ?_
              refine L177 ((12 - (a + 1) : Int)).toNat t a 1 ka (iC t (204 + (a : Int).toNat) (ka : Int).toNat) (a + 1) I F jjNW (by omega) (by omega) ?_
              intro s3143 x3144 Is3143 Fs3143 JNW_s3143 hs3143
              have hta3145 : ∀ a ∈ ([161, 230] : List Nat), ∀ j, j < (bA a).2.2 → (TU T 161 7).2 a j := hta_g hta (by decide)
              refine d_lift (fun k ws X h => z_inc X (x := ka) (lv' := [(3, .int (Int32.ofInt (ka + 1))), (0, .ref (A 179)), (1, .int (Int32.ofInt a)), (2, .int (Int32.ofInt 1)), (4, .int (Int32.ofInt (iC t (204 + (a : Int).toNat) (ka : Int).toNat))), (5, .int (Int32.ofInt x3144))]) (show cdA 227 278 = some (.iinc 3 1, 3, 0, 0, 0) from rfl) (by decide) (List.Mem.tail _ (List.Mem.tail _ (List.Mem.tail _ (List.Mem.head _)))) (fun _ h => h) h) ?_
              refine d_lift (fun k ws X h => z_goto X (t := 35) (show cdA 227 281 = some (.goto (-246), 3, 0, 0, 0) from rfl) (by decide) h) ?_
              exfalso
              omega
            ·
              refine d_lift (fun k ws X h => z_aload_n X (x := A 179) (show cdA 227 79 = some (.aload_n 0, 1, 0, 0, 0) from rfl) (List.Mem.tail _ (List.Mem.tail _ (List.Mem.head _))) h) ?_
              refine d_liftS (fun k s X h => s_getR X 179 (show cdA 227 80 = some (.getfield 76, 3, 12, 37, 0) from rfl) (by decide) rfl rfl h) ?_
              refine d_lift (fun k ws X h => z_aload_n X (x := A 179) (show cdA 227 83 = some (.aload_n 0, 1, 0, 0, 0) from rfl) (List.Mem.tail _ (List.Mem.tail _ (List.Mem.head _))) h) ?_
              refine d_liftS (fun k s X h => s_getR X 179 (show cdA 227 84 = some (.getfield 64, 3, 12, 33, 0) from rfl) (by decide) rfl rfl h) ?_
              refine d_lift (fun k ws X h => z_load_n X (x := a) (show cdA 227 87 = some (.iload_n 1, 1, 0, 0, 0) from rfl) (List.Mem.tail _ (List.Mem.tail _ (List.Mem.tail _ (List.Mem.head _)))) h) ?_
              refine d_liftS (fun k s X h => z_aald X rw_230 (show cdA 227 88 = some (.aaload, 1, 0, 0, 0) from rfl) (by omega) (show a < 12 by omega) (by decide) h) ?_
              refine d_lift (fun k ws X h => z_load_n X (x := ka) (show cdA 227 89 = some (.iload_n 3, 1, 0, 0, 0) from rfl) (List.Mem.tail _ (List.Mem.tail _ (List.Mem.tail _ (List.Mem.tail _ (List.Mem.head _))))) h) ?_
              refine d_lift (fun k ws X h => z_const X (show cdA 227 90 = some (.iconst 1, 1, 0, 0, 0) from rfl) h) ?_
              refine d_lift (fun k ws X h => z_sub X (show cdA 227 91 = some (.isub, 1, 0, 0, 0) from rfl) h) ?_
              refine d_ald2 rw_230 (show cdA 227 92 = some (.iaload, 1, 0, 0, 0) from rfl) (show (a : Int).toNat < 12 by omega) (by omega) (show (ka - 1) < 24 by omega) (by decide) (Or.inr ((htn _ (show (a : Int).toNat < 12 by omega) (show (((a : Int).toNat : Nat) : Int) < iI s 90 by omega)).2.2.2 _ (show ((((ka - 1) : Int).toNat : Nat) : Int) < iC s 202 (a : Int).toNat by omega))) ?_
              have b3146 : (0 : Int) ≤ (iC t (204 + (a : Int).toNat) ((ka - 1) : Int).toNat) ∧ (iC t (204 + (a : Int).toNat) ((ka - 1) : Int).toNat) ≤ 127 := rw_bd rw_230 I (show (a : Int).toNat < 12 by omega) (show ((ka - 1) : Int).toNat < 24 by omega)
              refine d_zald 258 (show cdA 227 93 = some (.baload, 1, 0, 0, 0) from rfl) (by decide) rfl (by omega) (show (iC t (204 + (a : Int).toNat) ((ka - 1) : Int).toNat) < 128 by omega) (by decide) (hta3001 230 (by decide) _ (show ((iC t (204 + (a : Int).toNat) ((ka - 1) : Int).toNat)).toNat < 128 by omega)) ?_
              have b3147 : (0 : Int) ≤ iC t 230 ((iC t (204 + (a : Int).toNat) ((ka - 1) : Int).toNat)).toNat ∧ iC t 230 ((iC t (204 + (a : Int).toNat) ((ka - 1) : Int).toNat)).toNat ≤ 1 := I.2 230 _ (show ((iC t (204 + (a : Int).toNat) ((ka - 1) : Int).toNat)).toNat < 128 by omega)
              have q3148 : iC t 230 ((iC t (204 + (a : Int).toNat) ((ka - 1) : Int).toNat)).toNat = iC s 230 ((iC t (204 + (a : Int).toNat) ((ka - 1) : Int).toNat)).toNat := fm_c F (by decide)
              refine d_lift (fun k ws X h => z_store X (lv' := [(5, .int (Int32.ofInt (iC t 230 ((iC t (204 + (a : Int).toNat) ((ka - 1) : Int).toNat)).toNat))), (2, .int (Int32.ofInt 1)), (4, .int (Int32.ofInt (iC t (204 + (a : Int).toNat) (ka : Int).toNat))), (0, .ref (A 179)), (1, .int (Int32.ofInt a)), (3, .int (Int32.ofInt ka))]) (show cdA 227 94 = some (.istore 5, 2, 0, 0, 0) from rfl) (by decide) (fun _ h => h) h) ?_
              refine d_lift (fun k ws X h => z_load X (x := (iC t 230 ((iC t (204 + (a : Int).toNat) ((ka - 1) : Int).toNat)).toNat)) (show cdA 227 96 = some (.iload 5, 2, 0, 0, 0) from rfl) (List.Mem.head _) h) ?_
              refine d_lift (fun k ws X h => z_aload_n X (x := A 179) (show cdA 227 98 = some (.aload_n 0, 1, 0, 0, 0) from rfl) (List.Mem.tail _ (List.Mem.tail _ (List.Mem.tail _ (List.Mem.head _)))) h) ?_
              refine d_liftS (fun k s X h => s_getR X 179 (show cdA 227 99 = some (.getfield 76, 3, 12, 37, 0) from rfl) (by decide) rfl rfl h) ?_
              refine d_lift (fun k ws X h => z_load X (x := (iC t (204 + (a : Int).toNat) (ka : Int).toNat)) (show cdA 227 102 = some (.iload 4, 2, 0, 0, 0) from rfl) (List.Mem.tail _ (List.Mem.tail _ (List.Mem.head _))) h) ?_
              refine d_zald 258 (show cdA 227 104 = some (.baload, 1, 0, 0, 0) from rfl) (by decide) rfl (by omega) (show (iC t (204 + (a : Int).toNat) (ka : Int).toNat) < 128 by omega) (by decide) (hta3001 230 (by decide) _ (show ((iC t (204 + (a : Int).toNat) (ka : Int).toNat)).toNat < 128 by omega)) ?_
              have b3149 : (0 : Int) ≤ iC t 230 ((iC t (204 + (a : Int).toNat) (ka : Int).toNat)).toNat ∧ iC t 230 ((iC t (204 + (a : Int).toNat) (ka : Int).toNat)).toNat ≤ 1 := I.2 230 _ (show ((iC t (204 + (a : Int).toNat) (ka : Int).toNat)).toNat < 128 by omega)
              have q3150 : iC t 230 ((iC t (204 + (a : Int).toNat) (ka : Int).toNat)).toNat = iC s 230 ((iC t (204 + (a : Int).toNat) (ka : Int).toNat)).toNat := fm_c F (by decide)
              refine d_br (by omega) (by omega) (fun k ws X h1 h2 => z_icmp_eq X (t := 123) (show cdA 227 105 = some (.if_icmp .eq 18, 3, 0, 0, 0) from rfl) (by decide) ⟨by omega, by omega⟩ ⟨by omega, by omega⟩ h1 h2) (fun g3151 => ?_) (fun g3151 => ?_)
              ·
                refine d_lift (fun k ws X h => z_load X (x := (iC t 230 ((iC t (204 + (a : Int).toNat) ((ka - 1) : Int).toNat)).toNat)) (show cdA 227 123 = some (.iload 5, 2, 0, 0, 0) from rfl) (List.Mem.head _) h) ?_
                refine d_br (by omega) (by omega) (fun k ws X h1 h2 => z_if_eq X (t := 172) (show cdA 227 125 = some (.ifCond .eq 47, 3, 0, 0, 0) from rfl) (by decide) ⟨by omega, by omega⟩ h1 h2) (fun g3152 => ?_) (fun g3152 => ?_)
                ·
                  refine d_lift (fun k ws X h => z_load_n X (x := a) (show cdA 227 172 = some (.iload_n 1, 1, 0, 0, 0) from rfl) (List.Mem.tail _ (List.Mem.tail _ (List.Mem.tail _ (List.Mem.tail _ (List.Mem.head _))))) h) ?_
                  refine d_lift (fun k ws X h => z_const X (show cdA 227 173 = some (.iconst 1, 1, 0, 0, 0) from rfl) h) ?_
                  refine d_lift (fun k ws X h => z_add X (show cdA 227 174 = some (.iadd, 1, 0, 0, 0) from rfl) h) ?_
                  refine d_lift (fun k ws X h => z_store X (lv' := [(5, .int (Int32.ofInt (a + 1))), (2, .int (Int32.ofInt 1)), (4, .int (Int32.ofInt (iC t (204 + (a : Int).toNat) (ka : Int).toNat))), (0, .ref (A 179)), (1, .int (Int32.ofInt a)), (3, .int (Int32.ofInt ka))]) (show cdA 227 175 = some (.istore 5, 2, 0, 0, 0) from rfl) (by decide) (fun _ h => h) h) ?_
                  refine d_lvs (lv := [(0, .ref (A 179)), (1, .int (Int32.ofInt a)), (2, .int (Int32.ofInt 1)), (3, .int (Int32.ofInt ka)), (4, .int (Int32.ofInt (iC t (204 + (a : Int).toNat) (ka : Int).toNat))), (5, .int (Int32.ofInt (a + 1)))]) (List.forall_mem_cons.mpr ⟨(List.Mem.tail _ (List.Mem.tail _ (List.Mem.tail _ (List.Mem.head _)))), (List.forall_mem_cons.mpr ⟨(List.Mem.tail _ (List.Mem.tail _ (List.Mem.tail _ (List.Mem.tail _ (List.Mem.head _))))), (List.forall_mem_cons.mpr ⟨(List.Mem.tail _ (List.Mem.head _)), (List.forall_mem_cons.mpr ⟨(List.Mem.tail _ (List.Mem.tail _ (List.Mem.tail _ (List.Mem.tail _ (List.Mem.tail _ (List.Mem.head _)))))), (List.forall_mem_cons.mpr ⟨(List.Mem.tail _ (List.Mem.tail _ (List.Mem.head _))), (List.forall_mem_cons.mpr ⟨(List.Mem.head _), (fun q h => absurd h List.not_mem_nil)⟩)⟩)⟩)⟩)⟩)⟩) ?_
                  refine L177 ((12 - (a + 1) : Int)).toNat t a 1 ka (iC t (204 + (a : Int).toNat) (ka : Int).toNat) (a + 1) I F jjNW (by omega) (by omega) ?_
                  intro s3153 x3154 Is3153 Fs3153 JNW_s3153 hs3153
                  have hta3155 : ∀ a ∈ ([161, 230] : List Nat), ∀ j, j < (bA a).2.2 → (TU T 161 7).2 a j := hta_g hta (by decide)
                  refine d_lift (fun k ws X h => z_inc X (x := ka) (lv' := [(3, .int (Int32.ofInt (ka + 1))), (0, .ref (A 179)), (1, .int (Int32.ofInt a)), (2, .int (Int32.ofInt 1)), (4, .int (Int32.ofInt (iC t (204 + (a : Int).toNat) (ka : Int).toNat))), (5, .int (Int32.ofInt x3154))]) (show cdA 227 278 = some (.iinc 3 1, 3, 0, 0, 0) from rfl) (by decide) (List.Mem.tail _ (List.Mem.tail _ (List.Mem.tail _ (List.Mem.head _)))) (fun _ h => h) h) ?_
                  refine d_lift (fun k ws X h => z_goto X (t := 35) (show cdA 227 281 = some (.goto (-246), 3, 0, 0, 0) from rfl) (by decide) h) ?_
                  exfalso
                  omega
                ·
                  refine d_lift (fun k ws X h => z_aload_n X (x := A 179) (show cdA 227 128 = some (.aload_n 0, 1, 0, 0, 0) from rfl) (List.Mem.tail _ (List.Mem.tail _ (List.Mem.tail _ (List.Mem.head _)))) h) ?_
                  refine d_liftS (fun k s X h => s_getR X 179 (show cdA 227 129 = some (.getfield 76, 3, 12, 37, 0) from rfl) (by decide) rfl rfl h) ?_
                  refine d_lift (fun k ws X h => z_load X (x := (iC t (204 + (a : Int).toNat) (ka : Int).toNat)) (show cdA 227 132 = some (.iload 4, 2, 0, 0, 0) from rfl) (List.Mem.tail _ (List.Mem.tail _ (List.Mem.head _))) h) ?_
                  refine d_zald 258 (show cdA 227 134 = some (.baload, 1, 0, 0, 0) from rfl) (by decide) rfl (by omega) (show (iC t (204 + (a : Int).toNat) (ka : Int).toNat) < 128 by omega) (by decide) (hta3001 230 (by decide) _ (show ((iC t (204 + (a : Int).toNat) (ka : Int).toNat)).toNat < 128 by omega)) ?_
                  have b3156 : (0 : Int) ≤ iC t 230 ((iC t (204 + (a : Int).toNat) (ka : Int).toNat)).toNat ∧ iC t 230 ((iC t (204 + (a : Int).toNat) (ka : Int).toNat)).toNat ≤ 1 := I.2 230 _ (show ((iC t (204 + (a : Int).toNat) (ka : Int).toNat)).toNat < 128 by omega)
                  have q3157 : iC t 230 ((iC t (204 + (a : Int).toNat) (ka : Int).toNat)).toNat = iC s 230 ((iC t (204 + (a : Int).toNat) (ka : Int).toNat)).toNat := fm_c F (by decide)
                  refine d_br (by omega) (by omega) (fun k ws X h1 h2 => z_if_eq X (t := 172) (show cdA 227 135 = some (.ifCond .eq 37, 3, 0, 0, 0) from rfl) (by decide) ⟨by omega, by omega⟩ h1 h2) (fun g3158 => ?_) (fun g3158 => ?_)
                  ·
                    refine d_lift (fun k ws X h => z_load_n X (x := a) (show cdA 227 172 = some (.iload_n 1, 1, 0, 0, 0) from rfl) (List.Mem.tail _ (List.Mem.tail _ (List.Mem.tail _ (List.Mem.tail _ (List.Mem.head _))))) h) ?_
                    refine d_lift (fun k ws X h => z_const X (show cdA 227 173 = some (.iconst 1, 1, 0, 0, 0) from rfl) h) ?_
                    refine d_lift (fun k ws X h => z_add X (show cdA 227 174 = some (.iadd, 1, 0, 0, 0) from rfl) h) ?_
                    refine d_lift (fun k ws X h => z_store X (lv' := [(5, .int (Int32.ofInt (a + 1))), (2, .int (Int32.ofInt 1)), (4, .int (Int32.ofInt (iC t (204 + (a : Int).toNat) (ka : Int).toNat))), (0, .ref (A 179)), (1, .int (Int32.ofInt a)), (3, .int (Int32.ofInt ka))]) (show cdA 227 175 = some (.istore 5, 2, 0, 0, 0) from rfl) (by decide) (fun _ h => h) h) ?_
                    refine d_lvs (lv := [(0, .ref (A 179)), (1, .int (Int32.ofInt a)), (2, .int (Int32.ofInt 1)), (3, .int (Int32.ofInt ka)), (4, .int (Int32.ofInt (iC t (204 + (a : Int).toNat) (ka : Int).toNat))), (5, .int (Int32.ofInt (a + 1)))]) (List.forall_mem_cons.mpr ⟨(List.Mem.tail _ (List.Mem.tail _ (List.Mem.tail _ (List.Mem.head _)))), (List.forall_mem_cons.mpr ⟨(List.Mem.tail _ (List.Mem.tail _ (List.Mem.tail _ (List.Mem.tail _ (List.Mem.head _))))), (List.forall_mem_cons.mpr ⟨(List.Mem.tail _ (List.Mem.head _)), (List.forall_mem_cons.mpr ⟨(List.Mem.tail _ (List.Mem.tail _ (List.Mem.tail _ (List.Mem.tail _ (List.Mem.tail _ (List.Mem.head _)))))), (List.forall_mem_cons.mpr ⟨(List.Mem.tail _ (List.Mem.tail _ (List.Mem.head _))), (List.forall_mem_cons.mpr ⟨(List.Mem.head _), (fun q h => absurd h List.not_mem_nil)⟩)⟩)⟩)⟩)⟩)⟩) ?_
                    refine L177 ((12 - (a + 1) : Int)).toNat t a 1 ka (iC t (204 + (a : Int).toNat) (ka : Int).toNat) (a + 1) I F jjNW (by omega) (by omega) ?_
                    intro s3159 x3160 Is3159 Fs3159 JNW_s3159 hs3159
                    have hta3161 : ∀ a ∈ ([161, 230] : List Nat), ∀ j, j < (bA a).2.2 → (TU T 161 7).2 a j := hta_g hta (by decide)
                    refine d_lift (fun k ws X h => z_inc X (x := ka) (lv' := [(3, .int (Int32.ofInt (ka + 1))), (0, .ref (A 179)), (1, .int (Int32.ofInt a)), (2, .int (Int32.ofInt 1)), (4, .int (Int32.ofInt (iC t (204 + (a : Int).toNat) (ka : Int).toNat))), (5, .int (Int32.ofInt x3160))]) (show cdA 227 278 = some (.iinc 3 1, 3, 0, 0, 0) from rfl) (by decide) (List.Mem.tail _ (List.Mem.tail _ (List.Mem.tail _ (List.Mem.head _)))) (fun _ h => h) h) ?_
                    refine d_lift (fun k ws X h => z_goto X (t := 35) (show cdA 227 281 = some (.goto (-246), 3, 0, 0, 0) from rfl) (by decide) h) ?_
                    exfalso
                    omega
                  ·
                    refine d_lift (fun k ws X h => z_aload_n X (x := A 179) (show cdA 227 138 = some (.aload_n 0, 1, 0, 0, 0) from rfl) (List.Mem.tail _ (List.Mem.tail _ (List.Mem.tail _ (List.Mem.head _)))) h) ?_
                    refine d_liftS (fun k s X h => s_getR X 179 (show cdA 227 139 = some (.getfield 64, 3, 12, 33, 0) from rfl) (by decide) rfl rfl h) ?_
                    refine d_lift (fun k ws X h => z_load_n X (x := a) (show cdA 227 142 = some (.iload_n 1, 1, 0, 0, 0) from rfl) (List.Mem.tail _ (List.Mem.tail _ (List.Mem.tail _ (List.Mem.tail _ (List.Mem.head _))))) h) ?_
                    refine d_liftS (fun k s X h => z_aald X rw_230 (show cdA 227 143 = some (.aaload, 1, 0, 0, 0) from rfl) (by omega) (show a < 12 by omega) (by decide) h) ?_
                    refine d_lift (fun k ws X h => z_load_n X (x := ka) (show cdA 227 144 = some (.iload_n 3, 1, 0, 0, 0) from rfl) (List.Mem.tail _ (List.Mem.tail _ (List.Mem.tail _ (List.Mem.tail _ (List.Mem.tail _ (List.Mem.head _)))))) h) ?_
                    refine d_lift (fun k ws X h => z_const X (show cdA 227 145 = some (.iconst 1, 1, 0, 0, 0) from rfl) h) ?_
                    refine d_lift (fun k ws X h => z_sub X (show cdA 227 146 = some (.isub, 1, 0, 0, 0) from rfl) h) ?_
                    refine d_ald2 rw_230 (show cdA 227 147 = some (.iaload, 1, 0, 0, 0) from rfl) (show (a : Int).toNat < 12 by omega) (by omega) (show (ka - 1) < 24 by omega) (by decide) (Or.inr ((htn _ (show (a : Int).toNat < 12 by omega) (show (((a : Int).toNat : Nat) : Int) < iI s 90 by omega)).2.2.2 _ (show ((((ka - 1) : Int).toNat : Nat) : Int) < iC s 202 (a : Int).toNat by omega))) ?_
                    have b3162 : (0 : Int) ≤ (iC t (204 + (a : Int).toNat) ((ka - 1) : Int).toNat) ∧ (iC t (204 + (a : Int).toNat) ((ka - 1) : Int).toNat) ≤ 127 := rw_bd rw_230 I (show (a : Int).toNat < 12 by omega) (show ((ka - 1) : Int).toNat < 24 by omega)
                    refine d_lift (fun k ws X h => z_load X (x := (iC t (204 + (a : Int).toNat) (ka : Int).toNat)) (show cdA 227 148 = some (.iload 4, 2, 0, 0, 0) from rfl) (List.Mem.tail _ (List.Mem.tail _ (List.Mem.head _))) h) ?_
                    refine d_callT (As := [.int (Int32.ofInt (iC t (204 + (a : Int).toNat) ((ka - 1) : Int).toNat)), .int (Int32.ofInt (iC t (204 + (a : Int).toNat) (ka : Int).toNat))]) (st := []) (show cdA 227 150 = some (.invokestatic 312, 3, 225, 1, 0) from rfl) rfl (d_stepOf (T := TU T 161 7) G I (by omega) (by omega) (fun q h => hti q ((by decide : ∀ q ∈ ([] : List Nat), q ∈ ([90, 89] : List Nat)) q h)) (fun a h => hta3001 a ((by decide : ∀ q ∈ ([] : List Nat), q ∈ ([161, 230] : List Nat)) a h))) ⟨rfl, rfl⟩ ⟨(show 6 + 1 ≤ 8 by omega), (show 8 + (mNL (miB 225) + 11) + 100 ≤ 143 by simp only [show mNL (miB 225) = 2 from rfl]; omega)⟩ (Nat.le_of_ble_eq_true rfl) (by decide) (by decide) (fun ee s3163 hq => ?_) (fun vv s3163 hq => ?_)
                    · obtain ⟨Is3163, Fs3163, e3164, hv, hrs3163, hps3163⟩ := hq; cases hv
                    obtain ⟨Is3163, Fs3163, e3164, hv, hrs3163, hps3163⟩ := hq
                    cases hv
                    have Gs3163 := fm_ts F Fs3163 (by decide) (by decide)
                    have JNW_s3163 : NW s3163 := NW_fm Fs3163 (by decide) jjNW
                    show DS l s0 D A dT 227 (rmN 227) [] [161] (TU T 161 7) Q (TU T 161 7) 153 [(5, .int (Int32.ofInt (iC t 230 ((iC t (204 + (a : Int).toNat) ((ka - 1) : Int).toNat)).toNat))), (2, .int (Int32.ofInt 1)), (4, .int (Int32.ofInt (iC t (204 + (a : Int).toNat) (ka : Int).toNat))), (0, .ref (A 179)), (1, .int (Int32.ofInt a)), (3, .int (Int32.ofInt ka))] [.int (Int32.ofInt e3164)] s3163
                    refine d_lift (fun k ws X h => z_const X (show cdA 227 153 = some (.iconst 3, 1, 0, 0, 0) from rfl) h) ?_
                    refine d_br (by omega) (by omega) (fun k ws X h1 h2 => z_icmp_le X (t := 172) (show cdA 227 154 = some (.if_icmp .le 18, 3, 5, 0, 0) from rfl) (by decide) ⟨by omega, by omega⟩ ⟨by omega, by omega⟩ h1 h2) (fun g3165 => ?_) (fun g3165 => ?_)
                    ·
                      refine d_lift (fun k ws X h => z_load_n X (x := a) (show cdA 227 172 = some (.iload_n 1, 1, 0, 0, 0) from rfl) (List.Mem.tail _ (List.Mem.tail _ (List.Mem.tail _ (List.Mem.tail _ (List.Mem.head _))))) h) ?_
                      refine d_lift (fun k ws X h => z_const X (show cdA 227 173 = some (.iconst 1, 1, 0, 0, 0) from rfl) h) ?_
                      refine d_lift (fun k ws X h => z_add X (show cdA 227 174 = some (.iadd, 1, 0, 0, 0) from rfl) h) ?_
                      refine d_lift (fun k ws X h => z_store X (lv' := [(5, .int (Int32.ofInt (a + 1))), (2, .int (Int32.ofInt 1)), (4, .int (Int32.ofInt (iC t (204 + (a : Int).toNat) (ka : Int).toNat))), (0, .ref (A 179)), (1, .int (Int32.ofInt a)), (3, .int (Int32.ofInt ka))]) (show cdA 227 175 = some (.istore 5, 2, 0, 0, 0) from rfl) (by decide) (fun _ h => h) h) ?_
                      refine d_lvs (lv := [(0, .ref (A 179)), (1, .int (Int32.ofInt a)), (2, .int (Int32.ofInt 1)), (3, .int (Int32.ofInt ka)), (4, .int (Int32.ofInt (iC t (204 + (a : Int).toNat) (ka : Int).toNat))), (5, .int (Int32.ofInt (a + 1)))]) (List.forall_mem_cons.mpr ⟨(List.Mem.tail _ (List.Mem.tail _ (List.Mem.tail _ (List.Mem.head _)))), (List.forall_mem_cons.mpr ⟨(List.Mem.tail _ (List.Mem.tail _ (List.Mem.tail _ (List.Mem.tail _ (List.Mem.head _))))), (List.forall_mem_cons.mpr ⟨(List.Mem.tail _ (List.Mem.head _)), (List.forall_mem_cons.mpr ⟨(List.Mem.tail _ (List.Mem.tail _ (List.Mem.tail _ (List.Mem.tail _ (List.Mem.tail _ (List.Mem.head _)))))), (List.forall_mem_cons.mpr ⟨(List.Mem.tail _ (List.Mem.tail _ (List.Mem.head _))), (List.forall_mem_cons.mpr ⟨(List.Mem.head _), (fun q h => absurd h List.not_mem_nil)⟩)⟩)⟩)⟩)⟩)⟩) ?_
                      refine L177 ((12 - (a + 1) : Int)).toNat s3163 a 1 ka (iC t (204 + (a : Int).toNat) (ka : Int).toNat) (a + 1) Is3163 Gs3163 JNW_s3163 (by omega) (by omega) ?_
                      intro s3166 x3167 Is3166 Fs3166 JNW_s3166 hs3166
                      have hta3168 : ∀ a ∈ ([161, 230] : List Nat), ∀ j, j < (bA a).2.2 → (TU T 161 7).2 a j := hta_g hta (by decide)
                      refine d_lift (fun k ws X h => z_inc X (x := ka) (lv' := [(3, .int (Int32.ofInt (ka + 1))), (0, .ref (A 179)), (1, .int (Int32.ofInt a)), (2, .int (Int32.ofInt 1)), (4, .int (Int32.ofInt (iC t (204 + (a : Int).toNat) (ka : Int).toNat))), (5, .int (Int32.ofInt x3167))]) (show cdA 227 278 = some (.iinc 3 1, 3, 0, 0, 0) from rfl) (by decide) (List.Mem.tail _ (List.Mem.tail _ (List.Mem.tail _ (List.Mem.head _)))) (fun _ h => h) h) ?_
                      refine d_lift (fun k ws X h => z_goto X (t := 35) (show cdA 227 281 = some (.goto (-246), 3, 0, 0, 0) from rfl) (by decide) h) ?_
                      exfalso
                      omega
                    ·
                      refine d_lift (fun k ws X h => z_aload_n X (x := A 179) (show cdA 227 157 = some (.aload_n 0, 1, 0, 0, 0) from rfl) (List.Mem.tail _ (List.Mem.tail _ (List.Mem.tail _ (List.Mem.head _)))) h) ?_
                      refine d_liftS (fun k s X h => s_getR X 179 (show cdA 227 158 = some (.getfield 32, 3, 12, 21, 0) from rfl) (by decide) rfl rfl h) ?_
                      refine d_lift (fun k ws X h => z_const X (show cdA 227 161 = some (.iconst 3, 1, 0, 0, 0) from rfl) h) ?_
                      refine d_lift (fun k ws X h => w_dup2_11 X.1 (ax_d X (show cdA 227 162 = some (.dup2, 1, 0, 0, 0) from rfl)) rfl rfl h) ?_
                      refine d_ald 184 (show cdA 227 163 = some (.iaload, 1, 0, 0, 0) from rfl) (by decide) rfl (by omega) (show 3 < 7 by omega) (by decide) (hta3001 161 (by decide) _ (show (3 : Int).toNat < 7 by omega)) ?_
                      have b3169 : ((-2147483648) : Int) ≤ iC s3163 161 (3 : Int).toNat ∧ iC s3163 161 (3 : Int).toNat ≤ 2147483647 := Is3163.2 161 _ (show (3 : Int).toNat < 7 by omega)
                      refine d_lift (fun k ws X h => z_aload_n X (x := A 179) (show cdA 227 164 = some (.aload_n 0, 1, 0, 0, 0) from rfl) (List.Mem.tail _ (List.Mem.tail _ (List.Mem.tail _ (List.Mem.head _)))) h) ?_
                      refine d_liftS (fun k s X h => s_getR X 179 (show cdA 227 165 = some (.getfield 61, 3, 12, 32, 0) from rfl) (by decide) rfl rfl h) ?_
                      refine d_lift (fun k ws X h => z_load_n X (x := a) (show cdA 227 168 = some (.iload_n 1, 1, 0, 0, 0) from rfl) (List.Mem.tail _ (List.Mem.tail _ (List.Mem.tail _ (List.Mem.tail _ (List.Mem.head _))))) h) ?_
                      refine d_ald 229 (show cdA 227 169 = some (.iaload, 1, 0, 0, 0) from rfl) (by decide) rfl (by omega) (show a < 12 by omega) (by decide) (Or.inr ((htn _ (show (a : Int).toNat < 12 by omega) (show (((a : Int).toNat : Nat) : Int) < iI s 90 by omega)).2.1)) ?_
                      have b3170 : (0 : Int) ≤ iC s3163 203 (a).toNat ∧ iC s3163 203 (a).toNat ≤ 50 := Is3163.2 203 _ (show (a).toNat < 12 by omega)
                      have q3171 : iC s3163 203 (a).toNat = iC s 203 (a).toNat := fm_c Gs3163 (by decide)
                      refine d_lift (fun k ws X h => z_add X (show cdA 227 170 = some (.iadd, 1, 0, 0, 0) from rfl) h) ?_
                      refine d_any (fun y3172 hy3172 => ?_)
                      refine d_ast 184 (show cdA 227 171 = some (.iastore, 1, 0, 0, 0) from rfl) (by decide) rfl (by omega) (show 3 < 7 by omega) (by decide) (show 161 ∈ _ by decide) (show ((-2147483648) : Int) ≤ y3172 ∧ y3172 ≤ 2147483647 by omega) ⟨by omega, by omega⟩ ?_
                      refine d_mono (T' := TU T 161 7) (fun _ h => h) (fun _ _ h => Or.inr h) ?_
                      obtain ⟨s3173, hs3173⟩ : ∃ x0, x0 = uC s3163 161 (3 : Int).toNat (Int32.ofInt y3172) := ⟨_, rfl⟩
                      rw [← hs3173]
                      have Is3173 : Bd s3173 := by rw [hs3173]; exact bd_C Is3163 (show ((-2147483648) : Int) ≤ y3172 ∧ y3172 ≤ 2147483647 by omega) ⟨by omega, by omega⟩
                      have Fs3173 := fm_C (i := (3 : Int).toNat) (x := Int32.ofInt y3172) Gs3163 (show 161 ∈ _ by decide)
                      rw [← hs3173] at Fs3173
                      have fs3173 : Fm [] [161] s3163 s3173 := by rw [hs3173]; exact fm_C (fm_rf _ _ _) (show 161 ∈ _ by decide)
                      have JNW_s3173 : NW s3173 := NW_fm fs3173 (by decide) JNW_s3163
                      refine d_lift (fun k ws X h => z_load_n X (x := a) (show cdA 227 172 = some (.iload_n 1, 1, 0, 0, 0) from rfl) (List.Mem.tail _ (List.Mem.tail _ (List.Mem.tail _ (List.Mem.tail _ (List.Mem.head _))))) h) ?_
                      refine d_lift (fun k ws X h => z_const X (show cdA 227 173 = some (.iconst 1, 1, 0, 0, 0) from rfl) h) ?_
                      refine d_lift (fun k ws X h => z_add X (show cdA 227 174 = some (.iadd, 1, 0, 0, 0) from rfl) h) ?_
                      refine d_lift (fun k ws X h => z_store X (lv' := [(5, .int (Int32.ofInt (a + 1))), (2, .int (Int32.ofInt 1)), (4, .int (Int32.ofInt (iC t (204 + (a : Int).toNat) (ka : Int).toNat))), (0, .ref (A 179)), (1, .int (Int32.ofInt a)), (3, .int (Int32.ofInt ka))]) (show cdA 227 175 = some (.istore 5, 2, 0, 0, 0) from rfl) (by decide) (fun _ h => h) h) ?_
                      refine d_lvs (lv := [(0, .ref (A 179)), (1, .int (Int32.ofInt a)), (2, .int (Int32.ofInt 1)), (3, .int (Int32.ofInt ka)), (4, .int (Int32.ofInt (iC t (204 + (a : Int).toNat) (ka : Int).toNat))), (5, .int (Int32.ofInt (a + 1)))]) (List.forall_mem_cons.mpr ⟨(List.Mem.tail _ (List.Mem.tail _ (List.Mem.tail _ (List.Mem.head _)))), (List.forall_mem_cons.mpr ⟨(List.Mem.tail _ (List.Mem.tail _ (List.Mem.tail _ (List.Mem.tail _ (List.Mem.head _))))), (List.forall_mem_cons.mpr ⟨(List.Mem.tail _ (List.Mem.head _)), (List.forall_mem_cons.mpr ⟨(List.Mem.tail _ (List.Mem.tail _ (List.Mem.tail _ (List.Mem.tail _ (List.Mem.tail _ (List.Mem.head _)))))), (List.forall_mem_cons.mpr ⟨(List.Mem.tail _ (List.Mem.tail _ (List.Mem.head _))), (List.forall_mem_cons.mpr ⟨(List.Mem.head _), (fun q h => absurd h List.not_mem_nil)⟩)⟩)⟩)⟩)⟩)⟩) ?_
                      refine L177 ((12 - (a + 1) : Int)).toNat s3173 a 1 ka (iC t (204 + (a : Int).toNat) (ka : Int).toNat) (a + 1) Is3173 Fs3173 JNW_s3173 (by omega) (by omega) ?_
                      intro s3174 x3175 Is3174 Fs3174 JNW_s3174 hs3174
                      have hta3176 : ∀ a ∈ ([161, 230] : List Nat), ∀ j, j < (bA a).2.2 → (TU T 161 7).2 a j := hta_g hta (by decide)
                      refine d_lift (fun k ws X h => z_inc X (x := ka) (lv' := [(3, .int (Int32.ofInt (ka + 1))), (0, .ref (A 179)), (1, .int (Int32.ofInt a)), (2, .int (Int32.ofInt 1)), (4, .int (Int32.ofInt (iC t (204 + (a : Int).toNat) (ka : Int).toNat))), (5, .int (Int32.ofInt x3175))]) (show cdA 227 278 = some (.iinc 3 1, 3, 0, 0, 0) from rfl) (by decide) (List.Mem.tail _ (List.Mem.tail _ (List.Mem.tail _ (List.Mem.head _)))) (fun _ h => h) h) ?_
                      refine d_lift (fun k ws X h => z_goto X (t := 35) (show cdA 227 281 = some (.goto (-246), 3, 0, 0, 0) from rfl) (by decide) h) ?_
                      exfalso
                      omega
              ·
                refine d_lift (fun k ws X h => z_aload_n X (x := A 179) (show cdA 227 108 = some (.aload_n 0, 1, 0, 0, 0) from rfl) (List.Mem.tail _ (List.Mem.tail _ (List.Mem.tail _ (List.Mem.head _)))) h) ?_
                refine d_liftS (fun k s X h => s_getR X 179 (show cdA 227 109 = some (.getfield 32, 3, 12, 21, 0) from rfl) (by decide) rfl rfl h) ?_
                refine d_lift (fun k ws X h => z_const X (show cdA 227 112 = some (.iconst 2, 1, 0, 0, 0) from rfl) h) ?_
                refine d_lift (fun k ws X h => w_dup2_11 X.1 (ax_d X (show cdA 227 113 = some (.dup2, 1, 0, 0, 0) from rfl)) rfl rfl h) ?_
                refine d_ald 184 (show cdA 227 114 = some (.iaload, 1, 0, 0, 0) from rfl) (by decide) rfl (by omega) (show 2 < 7 by omega) (by decide) (hta3001 161 (by decide) _ (show (2 : Int).toNat < 7 by omega)) ?_
                have b3177 : ((-2147483648) : Int) ≤ iC t 161 (2 : Int).toNat ∧ iC t 161 (2 : Int).toNat ≤ 2147483647 := I.2 161 _ (show (2 : Int).toNat < 7 by omega)
                refine d_lift (fun k ws X h => z_aload_n X (x := A 179) (show cdA 227 115 = some (.aload_n 0, 1, 0, 0, 0) from rfl) (List.Mem.tail _ (List.Mem.tail _ (List.Mem.tail _ (List.Mem.head _)))) h) ?_
                refine d_liftS (fun k s X h => s_getR X 179 (show cdA 227 116 = some (.getfield 61, 3, 12, 32, 0) from rfl) (by decide) rfl rfl h) ?_
                refine d_lift (fun k ws X h => z_load_n X (x := a) (show cdA 227 119 = some (.iload_n 1, 1, 0, 0, 0) from rfl) (List.Mem.tail _ (List.Mem.tail _ (List.Mem.tail _ (List.Mem.tail _ (List.Mem.head _))))) h) ?_
                refine d_ald 229 (show cdA 227 120 = some (.iaload, 1, 0, 0, 0) from rfl) (by decide) rfl (by omega) (show a < 12 by omega) (by decide) (Or.inr ((htn _ (show (a : Int).toNat < 12 by omega) (show (((a : Int).toNat : Nat) : Int) < iI s 90 by omega)).2.1)) ?_
                have b3178 : (0 : Int) ≤ iC t 203 (a).toNat ∧ iC t 203 (a).toNat ≤ 50 := I.2 203 _ (show (a).toNat < 12 by omega)
                have q3179 : iC t 203 (a).toNat = iC s 203 (a).toNat := fm_c F (by decide)
                refine d_lift (fun k ws X h => z_add X (show cdA 227 121 = some (.iadd, 1, 0, 0, 0) from rfl) h) ?_
                refine d_any (fun y3180 hy3180 => ?_)
                refine d_ast 184 (show cdA 227 122 = some (.iastore, 1, 0, 0, 0) from rfl) (by decide) rfl (by omega) (show 2 < 7 by omega) (by decide) (show 161 ∈ _ by decide) (show ((-2147483648) : Int) ≤ y3180 ∧ y3180 ≤ 2147483647 by omega) ⟨by omega, by omega⟩ ?_
                refine d_mono (T' := TU T 161 7) (fun _ h => h) (fun _ _ h => Or.inr h) ?_
                obtain ⟨s3181, hs3181⟩ : ∃ x0, x0 = uC t 161 (2 : Int).toNat (Int32.ofInt y3180) := ⟨_, rfl⟩
                rw [← hs3181]
                have Is3181 : Bd s3181 := by rw [hs3181]; exact bd_C I (show ((-2147483648) : Int) ≤ y3180 ∧ y3180 ≤ 2147483647 by omega) ⟨by omega, by omega⟩
                have Fs3181 := fm_C (i := (2 : Int).toNat) (x := Int32.ofInt y3180) F (show 161 ∈ _ by decide)
                rw [← hs3181] at Fs3181
                have fs3181 : Fm [] [161] t s3181 := by rw [hs3181]; exact fm_C (fm_rf _ _ _) (show 161 ∈ _ by decide)
                have JNW_s3181 : NW s3181 := NW_fm fs3181 (by decide) jjNW
                refine d_lift (fun k ws X h => z_load X (x := (iC t 230 ((iC t (204 + (a : Int).toNat) ((ka - 1) : Int).toNat)).toNat)) (show cdA 227 123 = some (.iload 5, 2, 0, 0, 0) from rfl) (List.Mem.head _) h) ?_
                refine d_br (by omega) (by omega) (fun k ws X h1 h2 => z_if_eq X (t := 172) (show cdA 227 125 = some (.ifCond .eq 47, 3, 0, 0, 0) from rfl) (by decide) ⟨by omega, by omega⟩ h1 h2) (fun g3182 => ?_) (fun g3182 => ?_)
                ·
                  refine d_lift (fun k ws X h => z_load_n X (x := a) (show cdA 227 172 = some (.iload_n 1, 1, 0, 0, 0) from rfl) (List.Mem.tail _ (List.Mem.tail _ (List.Mem.tail _ (List.Mem.tail _ (List.Mem.head _))))) h) ?_
                  refine d_lift (fun k ws X h => z_const X (show cdA 227 173 = some (.iconst 1, 1, 0, 0, 0) from rfl) h) ?_
                  refine d_lift (fun k ws X h => z_add X (show cdA 227 174 = some (.iadd, 1, 0, 0, 0) from rfl) h) ?_
                  refine d_lift (fun k ws X h => z_store X (lv' := [(5, .int (Int32.ofInt (a + 1))), (2, .int (Int32.ofInt 1)), (4, .int (Int32.ofInt (iC t (204 + (a : Int).toNat) (ka : Int).toNat))), (0, .ref (A 179)), (1, .int (Int32.ofInt a)), (3, .int (Int32.ofInt ka))]) (show cdA 227 175 = some (.istore 5, 2, 0, 0, 0) from rfl) (by decide) (fun _ h => h) h) ?_
                  refine d_lvs (lv := [(0, .ref (A 179)), (1, .int (Int32.ofInt a)), (2, .int (Int32.ofInt 1)), (3, .int (Int32.ofInt ka)), (4, .int (Int32.ofInt (iC t (204 + (a : Int).toNat) (ka : Int).toNat))), (5, .int (Int32.ofInt (a + 1)))]) (List.forall_mem_cons.mpr ⟨(List.Mem.tail _ (List.Mem.tail _ (List.Mem.tail _ (List.Mem.head _)))), (List.forall_mem_cons.mpr ⟨(List.Mem.tail _ (List.Mem.tail _ (List.Mem.tail _ (List.Mem.tail _ (List.Mem.head _))))), (List.forall_mem_cons.mpr ⟨(List.Mem.tail _ (List.Mem.head _)), (List.forall_mem_cons.mpr ⟨(List.Mem.tail _ (List.Mem.tail _ (List.Mem.tail _ (List.Mem.tail _ (List.Mem.tail _ (List.Mem.head _)))))), (List.forall_mem_cons.mpr ⟨(List.Mem.tail _ (List.Mem.tail _ (List.Mem.head _))), (List.forall_mem_cons.mpr ⟨(List.Mem.head _), (fun q h => absurd h List.not_mem_nil)⟩)⟩)⟩)⟩)⟩)⟩) ?_
                  refine L177 ((12 - (a + 1) : Int)).toNat s3181 a 1 ka (iC t (204 + (a : Int).toNat) (ka : Int).toNat) (a + 1) Is3181 Fs3181 JNW_s3181 (by omega) (by omega) ?_
                  intro s3183 x3184 Is3183 Fs3183 JNW_s3183 hs3183
                  have hta3185 : ∀ a ∈ ([161, 230] : List Nat), ∀ j, j < (bA a).2.2 → (TU T 161 7).2 a j := hta_g hta (by decide)
                  refine d_lift (fun k ws X h => z_inc X (x := ka) (lv' := [(3, .int (Int32.ofInt (ka + 1))), (0, .ref (A 179)), (1, .int (Int32.ofInt a)), (2, .int (Int32.ofInt 1)), (4, .int (Int32.ofInt (iC t (204 + (a : Int).toNat) (ka : Int).toNat))), (5, .int (Int32.ofInt x3184))]) (show cdA 227 278 = some (.iinc 3 1, 3, 0, 0, 0) from rfl) (by decide) (List.Mem.tail _ (List.Mem.tail _ (List.Mem.tail _ (List.Mem.head _)))) (fun _ h => h) h) ?_
                  refine d_lift (fun k ws X h => z_goto X (t := 35) (show cdA 227 281 = some (.goto (-246), 3, 0, 0, 0) from rfl) (by decide) h) ?_
                  exfalso
                  omega
                ·
                  refine d_lift (fun k ws X h => z_aload_n X (x := A 179) (show cdA 227 128 = some (.aload_n 0, 1, 0, 0, 0) from rfl) (List.Mem.tail _ (List.Mem.tail _ (List.Mem.tail _ (List.Mem.head _)))) h) ?_
                  refine d_liftS (fun k s X h => s_getR X 179 (show cdA 227 129 = some (.getfield 76, 3, 12, 37, 0) from rfl) (by decide) rfl rfl h) ?_
                  refine d_lift (fun k ws X h => z_load X (x := (iC t (204 + (a : Int).toNat) (ka : Int).toNat)) (show cdA 227 132 = some (.iload 4, 2, 0, 0, 0) from rfl) (List.Mem.tail _ (List.Mem.tail _ (List.Mem.head _))) h) ?_
                  refine d_zald 258 (show cdA 227 134 = some (.baload, 1, 0, 0, 0) from rfl) (by decide) rfl (by omega) (show (iC t (204 + (a : Int).toNat) (ka : Int).toNat) < 128 by omega) (by decide) (hta3001 230 (by decide) _ (show ((iC t (204 + (a : Int).toNat) (ka : Int).toNat)).toNat < 128 by omega)) ?_
                  have b3186 : (0 : Int) ≤ iC s3181 230 ((iC t (204 + (a : Int).toNat) (ka : Int).toNat)).toNat ∧ iC s3181 230 ((iC t (204 + (a : Int).toNat) (ka : Int).toNat)).toNat ≤ 1 := Is3181.2 230 _ (show ((iC t (204 + (a : Int).toNat) (ka : Int).toNat)).toNat < 128 by omega)
                  have q3187 : iC s3181 230 ((iC t (204 + (a : Int).toNat) (ka : Int).toNat)).toNat = iC s 230 ((iC t (204 + (a : Int).toNat) (ka : Int).toNat)).toNat := fm_c Fs3181 (by decide)
                  refine d_br (by omega) (by omega) (fun k ws X h1 h2 => z_if_eq X (t := 172) (show cdA 227 135 = some (.ifCond .eq 37, 3, 0, 0, 0) from rfl) (by decide) ⟨by omega, by omega⟩ h1 h2) (fun g3188 => ?_) (fun g3188 => ?_)
                  ·
                    refine d_lift (fun k ws X h => z_load_n X (x := a) (show cdA 227 172 = some (.iload_n 1, 1, 0, 0, 0) from rfl) (List.Mem.tail _ (List.Mem.tail _ (List.Mem.tail _ (List.Mem.tail _ (List.Mem.head _))))) h) ?_
                    refine d_lift (fun k ws X h => z_const X (show cdA 227 173 = some (.iconst 1, 1, 0, 0, 0) from rfl) h) ?_
                    refine d_lift (fun k ws X h => z_add X (show cdA 227 174 = some (.iadd, 1, 0, 0, 0) from rfl) h) ?_
                    refine d_lift (fun k ws X h => z_store X (lv' := [(5, .int (Int32.ofInt (a + 1))), (2, .int (Int32.ofInt 1)), (4, .int (Int32.ofInt (iC t (204 + (a : Int).toNat) (ka : Int).toNat))), (0, .ref (A 179)), (1, .int (Int32.ofInt a)), (3, .int (Int32.ofInt ka))]) (show cdA 227 175 = some (.istore 5, 2, 0, 0, 0) from rfl) (by decide) (fun _ h => h) h) ?_
                    refine d_lvs (lv := [(0, .ref (A 179)), (1, .int (Int32.ofInt a)), (2, .int (Int32.ofInt 1)), (3, .int (Int32.ofInt ka)), (4, .int (Int32.ofInt (iC t (204 + (a : Int).toNat) (ka : Int).toNat))), (5, .int (Int32.ofInt (a + 1)))]) (List.forall_mem_cons.mpr ⟨(List.Mem.tail _ (List.Mem.tail _ (List.Mem.tail _ (List.Mem.head _)))), (List.forall_mem_cons.mpr ⟨(List.Mem.tail _ (List.Mem.tail _ (List.Mem.tail _ (List.Mem.tail _ (List.Mem.head _))))), (List.forall_mem_cons.mpr ⟨(List.Mem.tail _ (List.Mem.head _)), (List.forall_mem_cons.mpr ⟨(List.Mem.tail _ (List.Mem.tail _ (List.Mem.tail _ (List.Mem.tail _ (List.Mem.tail _ (List.Mem.head _)))))), (List.forall_mem_cons.mpr ⟨(List.Mem.tail _ (List.Mem.tail _ (List.Mem.head _))), (List.forall_mem_cons.mpr ⟨(List.Mem.head _), (fun q h => absurd h List.not_mem_nil)⟩)⟩)⟩)⟩)⟩)⟩) ?_
                    refine L177 ((12 - (a + 1) : Int)).toNat s3181 a 1 ka (iC t (204 + (a : Int).toNat) (ka : Int).toNat) (a + 1) Is3181 Fs3181 JNW_s3181 (by omega) (by omega) ?_
                    intro s3189 x3190 Is3189 Fs3189 JNW_s3189 hs3189
                    have hta3191 : ∀ a ∈ ([161, 230] : List Nat), ∀ j, j < (bA a).2.2 → (TU T 161 7).2 a j := hta_g hta (by decide)
                    refine d_lift (fun k ws X h => z_inc X (x := ka) (lv' := [(3, .int (Int32.ofInt (ka + 1))), (0, .ref (A 179)), (1, .int (Int32.ofInt a)), (2, .int (Int32.ofInt 1)), (4, .int (Int32.ofInt (iC t (204 + (a : Int).toNat) (ka : Int).toNat))), (5, .int (Int32.ofInt x3190))]) (show cdA 227 278 = some (.iinc 3 1, 3, 0, 0, 0) from rfl) (by decide) (List.Mem.tail _ (List.Mem.tail _ (List.Mem.tail _ (List.Mem.head _)))) (fun _ h => h) h) ?_
                    refine d_lift (fun k ws X h => z_goto X (t := 35) (show cdA 227 281 = some (.goto (-246), 3, 0, 0, 0) from rfl) (by decide) h) ?_
                    exfalso
                    omega
                  ·
                    refine d_lift (fun k ws X h => z_aload_n X (x := A 179) (show cdA 227 138 = some (.aload_n 0, 1, 0, 0, 0) from rfl) (List.Mem.tail _ (List.Mem.tail _ (List.Mem.tail _ (List.Mem.head _)))) h) ?_
                    refine d_liftS (fun k s X h => s_getR X 179 (show cdA 227 139 = some (.getfield 64, 3, 12, 33, 0) from rfl) (by decide) rfl rfl h) ?_
                    refine d_lift (fun k ws X h => z_load_n X (x := a) (show cdA 227 142 = some (.iload_n 1, 1, 0, 0, 0) from rfl) (List.Mem.tail _ (List.Mem.tail _ (List.Mem.tail _ (List.Mem.tail _ (List.Mem.head _))))) h) ?_
                    refine d_liftS (fun k s X h => z_aald X rw_230 (show cdA 227 143 = some (.aaload, 1, 0, 0, 0) from rfl) (by omega) (show a < 12 by omega) (by decide) h) ?_
                    refine d_lift (fun k ws X h => z_load_n X (x := ka) (show cdA 227 144 = some (.iload_n 3, 1, 0, 0, 0) from rfl) (List.Mem.tail _ (List.Mem.tail _ (List.Mem.tail _ (List.Mem.tail _ (List.Mem.tail _ (List.Mem.head _)))))) h) ?_
                    refine d_lift (fun k ws X h => z_const X (show cdA 227 145 = some (.iconst 1, 1, 0, 0, 0) from rfl) h) ?_
                    refine d_lift (fun k ws X h => z_sub X (show cdA 227 146 = some (.isub, 1, 0, 0, 0) from rfl) h) ?_
                    refine d_ald2 rw_230 (show cdA 227 147 = some (.iaload, 1, 0, 0, 0) from rfl) (show (a : Int).toNat < 12 by omega) (by omega) (show (ka - 1) < 24 by omega) (by decide) (Or.inr ((htn _ (show (a : Int).toNat < 12 by omega) (show (((a : Int).toNat : Nat) : Int) < iI s 90 by omega)).2.2.2 _ (show ((((ka - 1) : Int).toNat : Nat) : Int) < iC s 202 (a : Int).toNat by omega))) ?_
                    have b3192 : (0 : Int) ≤ (iC s3181 (204 + (a : Int).toNat) ((ka - 1) : Int).toNat) ∧ (iC s3181 (204 + (a : Int).toNat) ((ka - 1) : Int).toNat) ≤ 127 := rw_bd rw_230 Is3181 (show (a : Int).toNat < 12 by omega) (show ((ka - 1) : Int).toNat < 24 by omega)
                    refine d_lift (fun k ws X h => z_load X (x := (iC t (204 + (a : Int).toNat) (ka : Int).toNat)) (show cdA 227 148 = some (.iload 4, 2, 0, 0, 0) from rfl) (List.Mem.tail _ (List.Mem.tail _ (List.Mem.head _))) h) ?_
                    refine d_callT (As := [.int (Int32.ofInt (iC s3181 (204 + (a : Int).toNat) ((ka - 1) : Int).toNat)), .int (Int32.ofInt (iC t (204 + (a : Int).toNat) (ka : Int).toNat))]) (st := []) (show cdA 227 150 = some (.invokestatic 312, 3, 225, 1, 0) from rfl) rfl (d_stepOf (T := TU T 161 7) G Is3181 (by omega) (by omega) (fun q h => hti q ((by decide : ∀ q ∈ ([] : List Nat), q ∈ ([90, 89] : List Nat)) q h)) (fun a h => hta3001 a ((by decide : ∀ q ∈ ([] : List Nat), q ∈ ([161, 230] : List Nat)) a h))) ⟨rfl, rfl⟩ ⟨(show 6 + 1 ≤ 8 by omega), (show 8 + (mNL (miB 225) + 11) + 100 ≤ 143 by simp only [show mNL (miB 225) = 2 from rfl]; omega)⟩ (Nat.le_of_ble_eq_true rfl) (by decide) (by decide) (fun ee s3193 hq => ?_) (fun vv s3193 hq => ?_)
                    · obtain ⟨Is3193, Fs3193, e3194, hv, hrs3193, hps3193⟩ := hq; cases hv
                    obtain ⟨Is3193, Fs3193, e3194, hv, hrs3193, hps3193⟩ := hq
                    cases hv
                    have Gs3193 := fm_ts Fs3181 Fs3193 (by decide) (by decide)
                    have JNW_s3193 : NW s3193 := NW_fm Fs3193 (by decide) JNW_s3181
                    show DS l s0 D A dT 227 (rmN 227) [] [161] (TU T 161 7) Q (TU T 161 7) 153 [(5, .int (Int32.ofInt (iC t 230 ((iC t (204 + (a : Int).toNat) ((ka - 1) : Int).toNat)).toNat))), (2, .int (Int32.ofInt 1)), (4, .int (Int32.ofInt (iC t (204 + (a : Int).toNat) (ka : Int).toNat))), (0, .ref (A 179)), (1, .int (Int32.ofInt a)), (3, .int (Int32.ofInt ka))] [.int (Int32.ofInt e3194)] s3193
                    refine d_lift (fun k ws X h => z_const X (show cdA 227 153 = some (.iconst 3, 1, 0, 0, 0) from rfl) h) ?_
                    refine d_br (by omega) (by omega) (fun k ws X h1 h2 => z_icmp_le X (t := 172) (show cdA 227 154 = some (.if_icmp .le 18, 3, 5, 0, 0) from rfl) (by decide) ⟨by omega, by omega⟩ ⟨by omega, by omega⟩ h1 h2) (fun g3195 => ?_) (fun g3195 => ?_)
                    ·
                      refine d_lift (fun k ws X h => z_load_n X (x := a) (show cdA 227 172 = some (.iload_n 1, 1, 0, 0, 0) from rfl) (List.Mem.tail _ (List.Mem.tail _ (List.Mem.tail _ (List.Mem.tail _ (List.Mem.head _))))) h) ?_
                      refine d_lift (fun k ws X h => z_const X (show cdA 227 173 = some (.iconst 1, 1, 0, 0, 0) from rfl) h) ?_
                      refine d_lift (fun k ws X h => z_add X (show cdA 227 174 = some (.iadd, 1, 0, 0, 0) from rfl) h) ?_
                      refine d_lift (fun k ws X h => z_store X (lv' := [(5, .int (Int32.ofInt (a + 1))), (2, .int (Int32.ofInt 1)), (4, .int (Int32.ofInt (iC t (204 + (a : Int).toNat) (ka : Int).toNat))), (0, .ref (A 179)), (1, .int (Int32.ofInt a)), (3, .int (Int32.ofInt ka))]) (show cdA 227 175 = some (.istore 5, 2, 0, 0, 0) from rfl) (by decide) (fun _ h => h) h) ?_
                      refine d_lvs (lv := [(0, .ref (A 179)), (1, .int (Int32.ofInt a)), (2, .int (Int32.ofInt 1)), (3, .int (Int32.ofInt ka)), (4, .int (Int32.ofInt (iC t (204 + (a : Int).toNat) (ka : Int).toNat))), (5, .int (Int32.ofInt (a + 1)))]) (List.forall_mem_cons.mpr ⟨(List.Mem.tail _ (List.Mem.tail _ (List.Mem.tail _ (List.Mem.head _)))), (List.forall_mem_cons.mpr ⟨(List.Mem.tail _ (List.Mem.tail _ (List.Mem.tail _ (List.Mem.tail _ (List.Mem.head _))))), (List.forall_mem_cons.mpr ⟨(List.Mem.tail _ (List.Mem.head _)), (List.forall_mem_cons.mpr ⟨(List.Mem.tail _ (List.Mem.tail _ (List.Mem.tail _ (List.Mem.tail _ (List.Mem.tail _ (List.Mem.head _)))))), (List.forall_mem_cons.mpr ⟨(List.Mem.tail _ (List.Mem.tail _ (List.Mem.head _))), (List.forall_mem_cons.mpr ⟨(List.Mem.head _), (fun q h => absurd h List.not_mem_nil)⟩)⟩)⟩)⟩)⟩)⟩) ?_
                      refine L177 ((12 - (a + 1) : Int)).toNat s3193 a 1 ka (iC t (204 + (a : Int).toNat) (ka : Int).toNat) (a + 1) Is3193 Gs3193 JNW_s3193 (by omega) (by omega) ?_
                      intro s3196 x3197 Is3196 Fs3196 JNW_s3196 hs3196
                      have hta3198 : ∀ a ∈ ([161, 230] : List Nat), ∀ j, j < (bA a).2.2 → (TU T 161 7).2 a j := hta_g hta (by decide)
                      refine d_lift (fun k ws X h => z_inc X (x := ka) (lv' := [(3, .int (Int32.ofInt (ka + 1))), (0, .ref (A 179)), (1, .int (Int32.ofInt a)), (2, .int (Int32.ofInt 1)), (4, .int (Int32.ofInt (iC t (204 + (a : Int).toNat) (ka : Int).toNat))), (5, .int (Int32.ofInt x3197))]) (show cdA 227 278 = some (.iinc 3 1, 3, 0, 0, 0) from rfl) (by decide) (List.Mem.tail _ (List.Mem.tail _ (List.Mem.tail _ (List.Mem.head _)))) (fun _ h => h) h) ?_
                      refine d_lift (fun k ws X h => z_goto X (t := 35) (show cdA 227 281 = some (.goto (-246), 3, 0, 0, 0) from rfl) (by decide) h) ?_
                      exfalso
                      omega
                    ·
                      refine d_lift (fun k ws X h => z_aload_n X (x := A 179) (show cdA 227 157 = some (.aload_n 0, 1, 0, 0, 0) from rfl) (List.Mem.tail _ (List.Mem.tail _ (List.Mem.tail _ (List.Mem.head _)))) h) ?_
                      refine d_liftS (fun k s X h => s_getR X 179 (show cdA 227 158 = some (.getfield 32, 3, 12, 21, 0) from rfl) (by decide) rfl rfl h) ?_
                      refine d_lift (fun k ws X h => z_const X (show cdA 227 161 = some (.iconst 3, 1, 0, 0, 0) from rfl) h) ?_
                      refine d_lift (fun k ws X h => w_dup2_11 X.1 (ax_d X (show cdA 227 162 = some (.dup2, 1, 0, 0, 0) from rfl)) rfl rfl h) ?_
                      refine d_ald 184 (show cdA 227 163 = some (.iaload, 1, 0, 0, 0) from rfl) (by decide) rfl (by omega) (show 3 < 7 by omega) (by decide) (hta3001 161 (by decide) _ (show (3 : Int).toNat < 7 by omega)) ?_
                      have b3199 : ((-2147483648) : Int) ≤ iC s3193 161 (3 : Int).toNat ∧ iC s3193 161 (3 : Int).toNat ≤ 2147483647 := Is3193.2 161 _ (show (3 : Int).toNat < 7 by omega)
                      refine d_lift (fun k ws X h => z_aload_n X (x := A 179) (show cdA 227 164 = some (.aload_n 0, 1, 0, 0, 0) from rfl) (List.Mem.tail _ (List.Mem.tail _ (List.Mem.tail _ (List.Mem.head _)))) h) ?_
                      refine d_liftS (fun k s X h => s_getR X 179 (show cdA 227 165 = some (.getfield 61, 3, 12, 32, 0) from rfl) (by decide) rfl rfl h) ?_
                      refine d_lift (fun k ws X h => z_load_n X (x := a) (show cdA 227 168 = some (.iload_n 1, 1, 0, 0, 0) from rfl) (List.Mem.tail _ (List.Mem.tail _ (List.Mem.tail _ (List.Mem.tail _ (List.Mem.head _))))) h) ?_
                      refine d_ald 229 (show cdA 227 169 = some (.iaload, 1, 0, 0, 0) from rfl) (by decide) rfl (by omega) (show a < 12 by omega) (by decide) (Or.inr ((htn _ (show (a : Int).toNat < 12 by omega) (show (((a : Int).toNat : Nat) : Int) < iI s 90 by omega)).2.1)) ?_
                      have b3200 : (0 : Int) ≤ iC s3193 203 (a).toNat ∧ iC s3193 203 (a).toNat ≤ 50 := Is3193.2 203 _ (show (a).toNat < 12 by omega)
                      have q3201 : iC s3193 203 (a).toNat = iC s 203 (a).toNat := fm_c Gs3193 (by decide)
                      refine d_lift (fun k ws X h => z_add X (show cdA 227 170 = some (.iadd, 1, 0, 0, 0) from rfl) h) ?_
                      refine d_any (fun y3202 hy3202 => ?_)
                      refine d_ast 184 (show cdA 227 171 = some (.iastore, 1, 0, 0, 0) from rfl) (by decide) rfl (by omega) (show 3 < 7 by omega) (by decide) (show 161 ∈ _ by decide) (show ((-2147483648) : Int) ≤ y3202 ∧ y3202 ≤ 2147483647 by omega) ⟨by omega, by omega⟩ ?_
                      refine d_mono (T' := TU T 161 7) (fun _ h => h) (fun _ _ h => Or.inr h) ?_
                      obtain ⟨s3203, hs3203⟩ : ∃ x0, x0 = uC s3193 161 (3 : Int).toNat (Int32.ofInt y3202) := ⟨_, rfl⟩
                      rw [← hs3203]
                      have Is3203 : Bd s3203 := by rw [hs3203]; exact bd_C Is3193 (show ((-2147483648) : Int) ≤ y3202 ∧ y3202 ≤ 2147483647 by omega) ⟨by omega, by omega⟩
                      have Fs3203 := fm_C (i := (3 : Int).toNat) (x := Int32.ofInt y3202) Gs3193 (show 161 ∈ _ by decide)
                      rw [← hs3203] at Fs3203
                      have fs3203 : Fm [] [161] s3193 s3203 := by rw [hs3203]; exact fm_C (fm_rf _ _ _) (show 161 ∈ _ by decide)
                      have JNW_s3203 : NW s3203 := NW_fm fs3203 (by decide) JNW_s3193
                      refine d_lift (fun k ws X h => z_load_n X (x := a) (show cdA 227 172 = some (.iload_n 1, 1, 0, 0, 0) from rfl) (List.Mem.tail _ (List.Mem.tail _ (List.Mem.tail _ (List.Mem.tail _ (List.Mem.head _))))) h) ?_
                      refine d_lift (fun k ws X h => z_const X (show cdA 227 173 = some (.iconst 1, 1, 0, 0, 0) from rfl) h) ?_
                      refine d_lift (fun k ws X h => z_add X (show cdA 227 174 = some (.iadd, 1, 0, 0, 0) from rfl) h) ?_
                      refine d_lift (fun k ws X h => z_store X (lv' := [(5, .int (Int32.ofInt (a + 1))), (2, .int (Int32.ofInt 1)), (4, .int (Int32.ofInt (iC t (204 + (a : Int).toNat) (ka : Int).toNat))), (0, .ref (A 179)), (1, .int (Int32.ofInt a)), (3, .int (Int32.ofInt ka))]) (show cdA 227 175 = some (.istore 5, 2, 0, 0, 0) from rfl) (by decide) (fun _ h => h) h) ?_
                      refine d_lvs (lv := [(0, .ref (A 179)), (1, .int (Int32.ofInt a)), (2, .int (Int32.ofInt 1)), (3, .int (Int32.ofInt ka)), (4, .int (Int32.ofInt (iC t (204 + (a : Int).toNat) (ka : Int).toNat))), (5, .int (Int32.ofInt (a + 1)))]) (List.forall_mem_cons.mpr ⟨(List.Mem.tail _ (List.Mem.tail _ (List.Mem.tail _ (List.Mem.head _)))), (List.forall_mem_cons.mpr ⟨(List.Mem.tail _ (List.Mem.tail _ (List.Mem.tail _ (List.Mem.tail _ (List.Mem.head _))))), (List.forall_mem_cons.mpr ⟨(List.Mem.tail _ (List.Mem.head _)), (List.forall_mem_cons.mpr ⟨(List.Mem.tail _ (List.Mem.tail _ (List.Mem.tail _ (List.Mem.tail _ (List.Mem.tail _ (List.Mem.head _)))))), (List.forall_mem_cons.mpr ⟨(List.Mem.tail _ (List.Mem.tail _ (List.Mem.head _))), (List.forall_mem_cons.mpr ⟨(List.Mem.head _), (fun q h => absurd h List.not_mem_nil)⟩)⟩)⟩)⟩)⟩)⟩) ?_
                      refine L177 ((12 - (a + 1) : Int)).toNat s3203 a 1 ka (iC t (204 + (a : Int).toNat) (ka : Int).toNat) (a + 1) Is3203 Fs3203 JNW_s3203 (by omega) (by omega) ?_
                      intro s3204 x3205 Is3204 Fs3204 JNW_s3204 hs3204
                      have hta3206 : ∀ a ∈ ([161, 230] : List Nat), ∀ j, j < (bA a).2.2 → (TU T 161 7).2 a j := hta_g hta (by decide)
                      refine d_lift (fun k ws X h => z_inc X (x := ka) (lv' := [(3, .int (Int32.ofInt (ka + 1))), (0, .ref (A 179)), (1, .int (Int32.ofInt a)), (2, .int (Int32.ofInt 1)), (4, .int (Int32.ofInt (iC t (204 + (a : Int).toNat) (ka : Int).toNat))), (5, .int (Int32.ofInt x3205))]) (show cdA 227 278 = some (.iinc 3 1, 3, 0, 0, 0) from rfl) (by decide) (List.Mem.tail _ (List.Mem.tail _ (List.Mem.tail _ (List.Mem.head _)))) (fun _ h => h) h) ?_
                      refine d_lift (fun k ws X h => z_goto X (t := 35) (show cdA 227 281 = some (.goto (-246), 3, 0, 0, 0) from rfl) (by decide) h) ?_
                      exfalso
                      omega
    | succ n ih =>
      intro t a iz ka I F jjNW hi hm kx
      have hta3001 : ∀ a ∈ ([161, 230] : List Nat), ∀ j, j < (bA a).2.2 → (TU T 161 7).2 a j := hta_g hta (by decide)
      refine d_lift (fun k ws X h => z_load_n X (x := ka) (show cdA 227 35 = some (.iload_n 3, 1, 0, 0, 0) from rfl) (List.Mem.tail _ (List.Mem.tail _ (List.Mem.tail _ (List.Mem.head _)))) h) ?_
      refine d_lift (fun k ws X h => z_aload_n X (x := A 179) (show cdA 227 36 = some (.aload_n 0, 1, 0, 0, 0) from rfl) (List.Mem.head _) h) ?_
      refine d_liftS (fun k s X h => s_getR X 179 (show cdA 227 37 = some (.getfield 58, 3, 12, 31, 0) from rfl) (by decide) rfl rfl h) ?_
      refine d_lift (fun k ws X h => z_load_n X (x := a) (show cdA 227 40 = some (.iload_n 1, 1, 0, 0, 0) from rfl) (List.Mem.tail _ (List.Mem.head _)) h) ?_
      refine d_ald 228 (show cdA 227 41 = some (.iaload, 1, 0, 0, 0) from rfl) (by decide) rfl (by omega) (show a < 12 by omega) (by decide) (Or.inr ((htn _ (show (a : Int).toNat < 12 by omega) (show (((a : Int).toNat : Nat) : Int) < iI s 90 by omega)).1)) ?_
      have b3002 : (0 : Int) ≤ iC t 202 (a).toNat ∧ iC t 202 (a).toNat ≤ 24 := I.2 202 _ (show (a).toNat < 12 by omega)
      have q3003 : iC t 202 (a).toNat = iC s 202 (a).toNat := fm_c F (by decide)
      have q3004 : iC t 202 (a : Int).toNat = iC s 202 (a : Int).toNat := fm_c F (by decide)
      have q3005 : iI t 90 = iI s 90 := fm_i F (by decide)
      refine d_br (by omega) (by omega) (fun k ws X h1 h2 => z_icmp_ge X (t := 284) (show cdA 227 42 = some (.if_icmp .ge 242, 3, 3, 0, 0) from rfl) (by decide) ⟨by omega, by omega⟩ ⟨by omega, by omega⟩ h1 h2) (fun g3006 => ?_) (fun g3006 => ?_)
      ·
        refine d_lvs (lv := [(0, .ref (A 179)), (1, .int (Int32.ofInt a)), (2, .int (Int32.ofInt iz)), (3, .int (Int32.ofInt ka))]) (List.forall_mem_cons.mpr ⟨(List.Mem.head _), (List.forall_mem_cons.mpr ⟨(List.Mem.tail _ (List.Mem.head _)), (List.forall_mem_cons.mpr ⟨(List.Mem.tail _ (List.Mem.tail _ (List.Mem.head _))), (List.forall_mem_cons.mpr ⟨(List.Mem.tail _ (List.Mem.tail _ (List.Mem.tail _ (List.Mem.head _)))), (fun q h => absurd h List.not_mem_nil)⟩)⟩)⟩)⟩) ?_
        exact kx _ iz ka I F jjNW (by omega)
      ·
        refine d_lift (fun k ws X h => z_aload_n X (x := A 179) (show cdA 227 45 = some (.aload_n 0, 1, 0, 0, 0) from rfl) (List.Mem.head _) h) ?_
        refine d_liftS (fun k s X h => s_getR X 179 (show cdA 227 46 = some (.getfield 64, 3, 12, 33, 0) from rfl) (by decide) rfl rfl h) ?_
        refine d_lift (fun k ws X h => z_load_n X (x := a) (show cdA 227 49 = some (.iload_n 1, 1, 0, 0, 0) from rfl) (List.Mem.tail _ (List.Mem.head _)) h) ?_
        refine d_liftS (fun k s X h => z_aald X rw_230 (show cdA 227 50 = some (.aaload, 1, 0, 0, 0) from rfl) (by omega) (show a < 12 by omega) (by decide) h) ?_
        refine d_lift (fun k ws X h => z_load_n X (x := ka) (show cdA 227 51 = some (.iload_n 3, 1, 0, 0, 0) from rfl) (List.Mem.tail _ (List.Mem.tail _ (List.Mem.tail _ (List.Mem.head _)))) h) ?_
        refine d_ald2 rw_230 (show cdA 227 52 = some (.iaload, 1, 0, 0, 0) from rfl) (show (a : Int).toNat < 12 by omega) (by omega) (show ka < 24 by omega) (by decide) (Or.inr ((htn _ (show (a : Int).toNat < 12 by omega) (show (((a : Int).toNat : Nat) : Int) < iI s 90 by omega)).2.2.2 _ (show (((ka : Int).toNat : Nat) : Int) < iC s 202 (a : Int).toNat by omega))) ?_
        have b3007 : (0 : Int) ≤ (iC t (204 + (a : Int).toNat) (ka : Int).toNat) ∧ (iC t (204 + (a : Int).toNat) (ka : Int).toNat) ≤ 127 := rw_bd rw_230 I (show (a : Int).toNat < 12 by omega) (show (ka : Int).toNat < 24 by omega)
        refine d_lift (fun k ws X h => z_store X (lv' := [(4, .int (Int32.ofInt (iC t (204 + (a : Int).toNat) (ka : Int).toNat))), (0, .ref (A 179)), (1, .int (Int32.ofInt a)), (2, .int (Int32.ofInt iz)), (3, .int (Int32.ofInt ka))]) (show cdA 227 53 = some (.istore 4, 2, 0, 0, 0) from rfl) (by decide) (fun _ h => h) h) ?_
        refine d_lift (fun k ws X h => z_load_n X (x := iz) (show cdA 227 55 = some (.iload_n 2, 1, 0, 0, 0) from rfl) (List.Mem.tail _ (List.Mem.tail _ (List.Mem.tail _ (List.Mem.head _)))) h) ?_
        refine d_br (by omega) (by omega) (fun k ws X h1 h2 => z_if_ne X (t := 69) (show cdA 227 56 = some (.ifCond .ne 13, 3, 1, 0, 0) from rfl) (by decide) ⟨by omega, by omega⟩ h1 h2) (fun g3008 => ?_) (fun g3008 => ?_)
        ·
          refine d_lift (fun k ws X h => z_const X (show cdA 227 69 = some (.iconst 1, 1, 0, 0, 0) from rfl) h) ?_
          refine d_lift (fun k ws X h => z_goto X (t := 74) (show cdA 227 70 = some (.goto 4, 3, 0, 0, 0) from rfl) (by decide) h) ?_
          refine d_lift (fun k ws X h => z_store_n X (lv' := [(2, .int (Int32.ofInt 1)), (4, .int (Int32.ofInt (iC t (204 + (a : Int).toNat) (ka : Int).toNat))), (0, .ref (A 179)), (1, .int (Int32.ofInt a)), (3, .int (Int32.ofInt ka))]) (show cdA 227 74 = some (.istore_n 2, 1, 0, 0, 0) from rfl) (by decide) (fun _ h => h) h) ?_
          refine d_lift (fun k ws X h => z_load_n X (x := ka) (show cdA 227 75 = some (.iload_n 3, 1, 0, 0, 0) from rfl) (List.Mem.tail _ (List.Mem.tail _ (List.Mem.tail _ (List.Mem.tail _ (List.Mem.head _))))) h) ?_
          refine d_br (by omega) (by omega) (fun k ws X h1 h2 => z_if_le X (t := 172) (show cdA 227 76 = some (.ifCond .le 96, 3, 5, 0, 0) from rfl) (by decide) ⟨by omega, by omega⟩ h1 h2) (fun g3009 => ?_) (fun g3009 => ?_)
          ·
            refine d_lift (fun k ws X h => z_load_n X (x := a) (show cdA 227 172 = some (.iload_n 1, 1, 0, 0, 0) from rfl) (List.Mem.tail _ (List.Mem.tail _ (List.Mem.tail _ (List.Mem.head _)))) h) ?_
            refine d_lift (fun k ws X h => z_const X (show cdA 227 173 = some (.iconst 1, 1, 0, 0, 0) from rfl) h) ?_
            refine d_lift (fun k ws X h => z_add X (show cdA 227 174 = some (.iadd, 1, 0, 0, 0) from rfl) h) ?_
            refine d_lift (fun k ws X h => z_store X (lv' := [(5, .int (Int32.ofInt (a + 1))), (2, .int (Int32.ofInt 1)), (4, .int (Int32.ofInt (iC t (204 + (a : Int).toNat) (ka : Int).toNat))), (0, .ref (A 179)), (1, .int (Int32.ofInt a)), (3, .int (Int32.ofInt ka))]) (show cdA 227 175 = some (.istore 5, 2, 0, 0, 0) from rfl) (by decide) (fun _ h => h) h) ?_
            refine d_lvs (lv := [(0, .ref (A 179)), (1, .int (Int32.ofInt a)), (2, .int (Int32.ofInt 1)), (3, .int (Int32.ofInt ka)), (4, .int (Int32.ofInt (iC t (204 + (a : Int).toNat) (ka : Int).toNat))), (5, .int (Int32.ofInt (a + 1)))]) (List.forall_mem_cons.mpr ⟨(List.Mem.tail _ (List.Mem.tail _ (List.Mem.tail _ (List.Mem.head _)))), (List.forall_mem_cons.mpr ⟨(List.Mem.tail _ (List.Mem.tail _ (List.Mem.tail _ (List.Mem.tail _ (List.Mem.head _))))), (List.forall_mem_cons.mpr ⟨(List.Mem.tail _ (List.Mem.head _)), (List.forall_mem_cons.mpr ⟨(List.Mem.tail _ (List.Mem.tail _ (List.Mem.tail _ (List.Mem.tail _ (List.Mem.tail _ (List.Mem.head _)))))), (List.forall_mem_cons.mpr ⟨(List.Mem.tail _ (List.Mem.tail _ (List.Mem.head _))), (List.forall_mem_cons.mpr ⟨(List.Mem.head _), (fun q h => absurd h List.not_mem_nil)⟩)⟩)⟩)⟩)⟩)⟩) ?_
            refine L177 ((12 - (a + 1) : Int)).toNat t a 1 ka (iC t (204 + (a : Int).toNat) (ka : Int).toNat) (a + 1) I F jjNW (by omega) (by omega) ?_
            intro s3010 x3011 Is3010 Fs3010 JNW_s3010 hs3010
            have hta3012 : ∀ a ∈ ([161, 230] : List Nat), ∀ j, j < (bA a).2.2 → (TU T 161 7).2 a j := hta_g hta (by decide)
            refine d_lift (fun k ws X h => z_inc X (x := ka) (lv' := [(3, .int (Int32.ofInt (ka + 1))), (0, .ref (A 179)), (1, .int (Int32.ofInt a)), (2, .int (Int32.ofInt 1)), (4, .int (Int32.ofInt (iC t (204 + (a : Int).toNat) (ka : Int).toNat))), (5, .int (Int32.ofInt x3011))]) (show cdA 227 278 = some (.iinc 3 1, 3, 0, 0, 0) from rfl) (by decide) (List.Mem.tail _ (List.Mem.tail _ (List.Mem.tail _ (List.Mem.head _)))) (fun _ h => h) h) ?_
            refine d_lift (fun k ws X h => z_goto X (t := 35) (show cdA 227 281 = some (.goto (-246), 3, 0, 0, 0) from rfl) (by decide) h) ?_
            refine d_lvs (lv := [(0, .ref (A 179)), (1, .int (Int32.ofInt a)), (2, .int (Int32.ofInt 1)), (3, .int (Int32.ofInt (ka + 1)))]) (List.forall_mem_cons.mpr ⟨(List.Mem.tail _ (List.Mem.head _)), (List.forall_mem_cons.mpr ⟨(List.Mem.tail _ (List.Mem.tail _ (List.Mem.head _))), (List.forall_mem_cons.mpr ⟨(List.Mem.tail _ (List.Mem.tail _ (List.Mem.tail _ (List.Mem.head _)))), (List.forall_mem_cons.mpr ⟨(List.Mem.head _), (fun q h => absurd h List.not_mem_nil)⟩)⟩)⟩)⟩) ?_
            exact ih _ a 1 (ka + 1) Is3010 Fs3010 JNW_s3010 (by omega) (by omega) kx
          ·
            refine d_lift (fun k ws X h => z_aload_n X (x := A 179) (show cdA 227 79 = some (.aload_n 0, 1, 0, 0, 0) from rfl) (List.Mem.tail _ (List.Mem.tail _ (List.Mem.head _))) h) ?_
            refine d_liftS (fun k s X h => s_getR X 179 (show cdA 227 80 = some (.getfield 76, 3, 12, 37, 0) from rfl) (by decide) rfl rfl h) ?_
            refine d_lift (fun k ws X h => z_aload_n X (x := A 179) (show cdA 227 83 = some (.aload_n 0, 1, 0, 0, 0) from rfl) (List.Mem.tail _ (List.Mem.tail _ (List.Mem.head _))) h) ?_
            refine d_liftS (fun k s X h => s_getR X 179 (show cdA 227 84 = some (.getfield 64, 3, 12, 33, 0) from rfl) (by decide) rfl rfl h) ?_
            refine d_lift (fun k ws X h => z_load_n X (x := a) (show cdA 227 87 = some (.iload_n 1, 1, 0, 0, 0) from rfl) (List.Mem.tail _ (List.Mem.tail _ (List.Mem.tail _ (List.Mem.head _)))) h) ?_
            refine d_liftS (fun k s X h => z_aald X rw_230 (show cdA 227 88 = some (.aaload, 1, 0, 0, 0) from rfl) (by omega) (show a < 12 by omega) (by decide) h) ?_
            refine d_lift (fun k ws X h => z_load_n X (x := ka) (show cdA 227 89 = some (.iload_n 3, 1, 0, 0, 0) from rfl) (List.Mem.tail _ (List.Mem.tail _ (List.Mem.tail _ (List.Mem.tail _ (List.Mem.head _))))) h) ?_
            refine d_lift (fun k ws X h => z_const X (show cdA 227 90 = some (.iconst 1, 1, 0, 0, 0) from rfl) h) ?_
            refine d_lift (fun k ws X h => z_sub X (show cdA 227 91 = some (.isub, 1, 0, 0, 0) from rfl) h) ?_
            refine d_ald2 rw_230 (show cdA 227 92 = some (.iaload, 1, 0, 0, 0) from rfl) (show (a : Int).toNat < 12 by omega) (by omega) (show (ka - 1) < 24 by omega) (by decide) (Or.inr ((htn _ (show (a : Int).toNat < 12 by omega) (show (((a : Int).toNat : Nat) : Int) < iI s 90 by omega)).2.2.2 _ (show ((((ka - 1) : Int).toNat : Nat) : Int) < iC s 202 (a : Int).toNat by omega))) ?_
            have b3013 : (0 : Int) ≤ (iC t (204 + (a : Int).toNat) ((ka - 1) : Int).toNat) ∧ (iC t (204 + (a : Int).toNat) ((ka - 1) : Int).toNat) ≤ 127 := rw_bd rw_230 I (show (a : Int).toNat < 12 by omega) (show ((ka - 1) : Int).toNat < 24 by omega)
            refine d_zald 258 (show cdA 227 93 = some (.baload, 1, 0, 0, 0) from rfl) (by decide) rfl (by omega) (show (iC t (204 + (a : Int).toNat) ((ka - 1) : Int).toNat) < 128 by omega) (by decide) (hta3001 230 (by decide) _ (show ((iC t (204 + (a : Int).toNat) ((ka - 1) : Int).toNat)).toNat < 128 by omega)) ?_
            have b3014 : (0 : Int) ≤ iC t 230 ((iC t (204 + (a : Int).toNat) ((ka - 1) : Int).toNat)).toNat ∧ iC t 230 ((iC t (204 + (a : Int).toNat) ((ka - 1) : Int).toNat)).toNat ≤ 1 := I.2 230 _ (show ((iC t (204 + (a : Int).toNat) ((ka - 1) : Int).toNat)).toNat < 128 by omega)
            have q3015 : iC t 230 ((iC t (204 + (a : Int).toNat) ((ka - 1) : Int).toNat)).toNat = iC s 230 ((iC t (204 + (a : Int).toNat) ((ka - 1) : Int).toNat)).toNat := fm_c F (by decide)
            refine d_lift (fun k ws X h => z_store X (lv' := [(5, .int (Int32.ofInt (iC t 230 ((iC t (204 + (a : Int).toNat) ((ka - 1) : Int).toNat)).toNat))), (2, .int (Int32.ofInt 1)), (4, .int (Int32.ofInt (iC t (204 + (a : Int).toNat) (ka : Int).toNat))), (0, .ref (A 179)), (1, .int (Int32.ofInt a)), (3, .int (Int32.ofInt ka))]) (show cdA 227 94 = some (.istore 5, 2, 0, 0, 0) from rfl) (by decide) (fun _ h => h) h) ?_
            refine d_lift (fun k ws X h => z_load X (x := (iC t 230 ((iC t (204 + (a : Int).toNat) ((ka - 1) : Int).toNat)).toNat)) (show cdA 227 96 = some (.iload 5, 2, 0, 0, 0) from rfl) (List.Mem.head _) h) ?_
            refine d_lift (fun k ws X h => z_aload_n X (x := A 179) (show cdA 227 98 = some (.aload_n 0, 1, 0, 0, 0) from rfl) (List.Mem.tail _ (List.Mem.tail _ (List.Mem.tail _ (List.Mem.head _)))) h) ?_
            refine d_liftS (fun k s X h => s_getR X 179 (show cdA 227 99 = some (.getfield 76, 3, 12, 37, 0) from rfl) (by decide) rfl rfl h) ?_
            refine d_lift (fun k ws X h => z_load X (x := (iC t (204 + (a : Int).toNat) (ka : Int).toNat)) (show cdA 227 102 = some (.iload 4, 2, 0, 0, 0) from rfl) (List.Mem.tail _ (List.Mem.tail _ (List.Mem.head _))) h) ?_
            refine d_zald 258 (show cdA 227 104 = some (.baload, 1, 0, 0, 0) from rfl) (by decide) rfl (by omega) (show (iC t (204 + (a : Int).toNat) (ka : Int).toNat) < 128 by omega) (by decide) (hta3001 230 (by decide) _ (show ((iC t (204 + (a : Int).toNat) (ka : Int).toNat)).toNat < 128 by omega)) ?_
            have b3016 : (0 : Int) ≤ iC t 230 ((iC t (204 + (a : Int).toNat) (ka : Int).toNat)).toNat ∧ iC t 230 ((iC t (204 + (a : Int).toNat) (ka : Int).toNat)).toNat ≤ 1 := I.2 230 _ (show ((iC t (204 + (a : Int).toNat) (ka : Int).toNat)).toNat < 128 by omega)
            have q3017 : iC t 230 ((iC t (204 + (a : Int).toNat) (ka : Int).toNat)).toNat = iC s 230 ((iC t (204 + (a : Int).toNat) (ka : Int).toNat)).toNat := fm_c F (by decide)
            refine d_br (by omega) (by omega) (fun k ws X h1 h2 => z_icmp_eq X (t := 123) (show cdA 227 105 = some (.if_icmp .eq 18, 3, 0, 0, 0) from rfl) (by decide) ⟨by omega, by omega⟩ ⟨by omega, by omega⟩ h1 h2) (fun g3018 => ?_) (fun g3018 => ?_)
            ·
              refine d_lift (fun k ws X h => z_load X (x := (iC t 230 ((iC t (204 + (a : Int).toNat) ((ka - 1) : Int).toNat)).toNat)) (show cdA 227 123 = some (.iload 5, 2, 0, 0, 0) from rfl) (List.Mem.head _) h) ?_
              refine d_br (by omega) (by omega) (fun k ws X h1 h2 => z_if_eq X (t := 172) (show cdA 227 125 = some (.ifCond .eq 47, 3, 0, 0, 0) from rfl) (by decide) ⟨by omega, by omega⟩ h1 h2) (fun g3019 => ?_) (fun g3019 => ?_)
              ·
                refine d_lift (fun k ws X h => z_load_n X (x := a) (show cdA 227 172 = some (.iload_n 1, 1, 0, 0, 0) from rfl) (List.Mem.tail _ (List.Mem.tail _ (List.Mem.tail _ (List.Mem.tail _ (List.Mem.head _))))) h) ?_
                refine d_lift (fun k ws X h => z_const X (show cdA 227 173 = some (.iconst 1, 1, 0, 0, 0) from rfl) h) ?_
                refine d_lift (fun k ws X h => z_add X (show cdA 227 174 = some (.iadd, 1, 0, 0, 0) from rfl) h) ?_
                refine d_lift (fun k ws X h => z_store X (lv' := [(5, .int (Int32.ofInt (a + 1))), (2, .int (Int32.ofInt 1)), (4, .int (Int32.ofInt (iC t (204 + (a : Int).toNat) (ka : Int).toNat))), (0, .ref (A 179)), (1, .int (Int32.ofInt a)), (3, .int (Int32.ofInt ka))]) (show cdA 227 175 = some (.istore 5, 2, 0, 0, 0) from rfl) (by decide) (fun _ h => h) h) ?_
                refine d_lvs (lv := [(0, .ref (A 179)), (1, .int (Int32.ofInt a)), (2, .int (Int32.ofInt 1)), (3, .int (Int32.ofInt ka)), (4, .int (Int32.ofInt (iC t (204 + (a : Int).toNat) (ka : Int).toNat))), (5, .int (Int32.ofInt (a + 1)))]) (List.forall_mem_cons.mpr ⟨(List.Mem.tail _ (List.Mem.tail _ (List.Mem.tail _ (List.Mem.head _)))), (List.forall_mem_cons.mpr ⟨(List.Mem.tail _ (List.Mem.tail _ (List.Mem.tail _ (List.Mem.tail _ (List.Mem.head _))))), (List.forall_mem_cons.mpr ⟨(List.Mem.tail _ (List.Mem.head _)), (List.forall_mem_cons.mpr ⟨(List.Mem.tail _ (List.Mem.tail _ (List.Mem.tail _ (List.Mem.tail _ (List.Mem.tail _ (List.Mem.head _)))))), (List.forall_mem_cons.mpr ⟨(List.Mem.tail _ (List.Mem.tail _ (List.Mem.head _))), (List.forall_mem_cons.mpr ⟨(List.Mem.head _), (fun q h => absurd h List.not_mem_nil)⟩)⟩)⟩)⟩)⟩)⟩) ?_
                refine L177 ((12 - (a + 1) : Int)).toNat t a 1 ka (iC t (204 + (a : Int).toNat) (ka : Int).toNat) (a + 1) I F jjNW (by omega) (by omega) ?_
                intro s3020 x3021 Is3020 Fs3020 JNW_s3020 hs3020
                have hta3022 : ∀ a ∈ ([161, 230] : List Nat), ∀ j, j < (bA a).2.2 → (TU T 161 7).2 a j := hta_g hta (by decide)
                refine d_lift (fun k ws X h => z_inc X (x := ka) (lv' := [(3, .int (Int32.ofInt (ka + 1))), (0, .ref (A 179)), (1, .int (Int32.ofInt a)), (2, .int (Int32.ofInt 1)), (4, .int (Int32.ofInt (iC t (204 + (a : Int).toNat) (ka : Int).toNat))), (5, .int (Int32.ofInt x3021))]) (show cdA 227 278 = some (.iinc 3 1, 3, 0, 0, 0) from rfl) (by decide) (List.Mem.tail _ (List.Mem.tail _ (List.Mem.tail _ (List.Mem.head _)))) (fun _ h => h) h) ?_
                refine d_lift (fun k ws X h => z_goto X (t := 35) (show cdA 227 281 = some (.goto (-246), 3, 0, 0, 0) from rfl) (by decide) h) ?_
                refine d_lvs (lv := [(0, .ref (A 179)), (1, .int (Int32.ofInt a)), (2, .int (Int32.ofInt 1)), (3, .int (Int32.ofInt (ka + 1)))]) (List.forall_mem_cons.mpr ⟨(List.Mem.tail _ (List.Mem.head _)), (List.forall_mem_cons.mpr ⟨(List.Mem.tail _ (List.Mem.tail _ (List.Mem.head _))), (List.forall_mem_cons.mpr ⟨(List.Mem.tail _ (List.Mem.tail _ (List.Mem.tail _ (List.Mem.head _)))), (List.forall_mem_cons.mpr ⟨(List.Mem.head _), (fun q h => absurd h List.not_mem_nil)⟩)⟩)⟩)⟩) ?_
                exact ih _ a 1 (ka + 1) Is3020 Fs3020 JNW_s3020 (by omega) (by omega) kx
              ·
                refine d_lift (fun k ws X h => z_aload_n X (x := A 179) (show cdA 227 128 = some (.aload_n 0, 1, 0, 0, 0) from rfl) (List.Mem.tail _ (List.Mem.tail _ (List.Mem.tail _ (List.Mem.head _)))) h) ?_
                refine d_liftS (fun k s X h => s_getR X 179 (show cdA 227 129 = some (.getfield 76, 3, 12, 37, 0) from rfl) (by decide) rfl rfl h) ?_
                refine d_lift (fun k ws X h => z_load X (x := (iC t (204 + (a : Int).toNat) (ka : Int).toNat)) (show cdA 227 132 = some (.iload 4, 2, 0, 0, 0) from rfl) (List.Mem.tail _ (List.Mem.tail _ (List.Mem.head _))) h) ?_
                refine d_zald 258 (show cdA 227 134 = some (.baload, 1, 0, 0, 0) from rfl) (by decide) rfl (by omega) (show (iC t (204 + (a : Int).toNat) (ka : Int).toNat) < 128 by omega) (by decide) (hta3001 230 (by decide) _ (show ((iC t (204 + (a : Int).toNat) (ka : Int).toNat)).toNat < 128 by omega)) ?_
                have b3023 : (0 : Int) ≤ iC t 230 ((iC t (204 + (a : Int).toNat) (ka : Int).toNat)).toNat ∧ iC t 230 ((iC t (204 + (a : Int).toNat) (ka : Int).toNat)).toNat ≤ 1 := I.2 230 _ (show ((iC t (204 + (a : Int).toNat) (ka : Int).toNat)).toNat < 128 by omega)
                have q3024 : iC t 230 ((iC t (204 + (a : Int).toNat) (ka : Int).toNat)).toNat = iC s 230 ((iC t (204 + (a : Int).toNat) (ka : Int).toNat)).toNat := fm_c F (by decide)
                refine d_br (by omega) (by omega) (fun k ws X h1 h2 => z_if_eq X (t := 172) (show cdA 227 135 = some (.ifCond .eq 37, 3, 0, 0, 0) from rfl) (by decide) ⟨by omega, by omega⟩ h1 h2) (fun g3025 => ?_) (fun g3025 => ?_)
                ·
                  refine d_lift (fun k ws X h => z_load_n X (x := a) (show cdA 227 172 = some (.iload_n 1, 1, 0, 0, 0) from rfl) (List.Mem.tail _ (List.Mem.tail _ (List.Mem.tail _ (List.Mem.tail _ (List.Mem.head _))))) h) ?_
                  refine d_lift (fun k ws X h => z_const X (show cdA 227 173 = some (.iconst 1, 1, 0, 0, 0) from rfl) h) ?_
                  refine d_lift (fun k ws X h => z_add X (show cdA 227 174 = some (.iadd, 1, 0, 0, 0) from rfl) h) ?_
                  refine d_lift (fun k ws X h => z_store X (lv' := [(5, .int (Int32.ofInt (a + 1))), (2, .int (Int32.ofInt 1)), (4, .int (Int32.ofInt (iC t (204 + (a : Int).toNat) (ka : Int).toNat))), (0, .ref (A 179)), (1, .int (Int32.ofInt a)), (3, .int (Int32.ofInt ka))]) (show cdA 227 175 = some (.istore 5, 2, 0, 0, 0) from rfl) (by decide) (fun _ h => h) h) ?_
                  refine d_lvs (lv := [(0, .ref (A 179)), (1, .int (Int32.ofInt a)), (2, .int (Int32.ofInt 1)), (3, .int (Int32.ofInt ka)), (4, .int (Int32.ofInt (iC t (204 + (a : Int).toNat) (ka : Int).toNat))), (5, .int (Int32.ofInt (a + 1)))]) (List.forall_mem_cons.mpr ⟨(List.Mem.tail _ (List.Mem.tail _ (List.Mem.tail _ (List.Mem.head _)))), (List.forall_mem_cons.mpr ⟨(List.Mem.tail _ (List.Mem.tail _ (List.Mem.tail _ (List.Mem.tail _ (List.Mem.head _))))), (List.forall_mem_cons.mpr ⟨(List.Mem.tail _ (List.Mem.head _)), (List.forall_mem_cons.mpr ⟨(List.Mem.tail _ (List.Mem.tail _ (List.Mem.tail _ (List.Mem.tail _ (List.Mem.tail _ (List.Mem.head _)))))), (List.forall_mem_cons.mpr ⟨(List.Mem.tail _ (List.Mem.tail _ (List.Mem.head _))), (List.forall_mem_cons.mpr ⟨(List.Mem.head _), (fun q h => absurd h List.not_mem_nil)⟩)⟩)⟩)⟩)⟩)⟩) ?_
                  refine L177 ((12 - (a + 1) : Int)).toNat t a 1 ka (iC t (204 + (a : Int).toNat) (ka : Int).toNat) (a + 1) I F jjNW (by omega) (by omega) ?_
                  intro s3026 x3027 Is3026 Fs3026 JNW_s3026 hs3026
                  have hta3028 : ∀ a ∈ ([161, 230] : List Nat), ∀ j, j < (bA a).2.2 → (TU T 161 7).2 a j := hta_g hta (by decide)
                  refine d_lift (fun k ws X h => z_inc X (x := ka) (lv' := [(3, .int (Int32.ofInt (ka + 1))), (0, .ref (A 179)), (1, .int (Int32.ofInt a)), (2, .int (Int32.ofInt 1)), (4, .int (Int32.ofInt (iC t (204 + (a : Int).toNat) (ka : Int).toNat))), (5, .int (Int32.ofInt x3027))]) (show cdA 227 278 = some (.iinc 3 1, 3, 0, 0, 0) from rfl) (by decide) (List.Mem.tail _ (List.Mem.tail _ (List.Mem.tail _ (List.Mem.head _)))) (fun _ h => h) h) ?_
                  refine d_lift (fun k ws X h => z_goto X (t := 35) (show cdA 227 281 = some (.goto (-246), 3, 0, 0, 0) from rfl) (by decide) h) ?_
                  refine d_lvs (lv := [(0, .ref (A 179)), (1, .int (Int32.ofInt a)), (2, .int (Int32.ofInt 1)), (3, .int (Int32.ofInt (ka + 1)))]) (List.forall_mem_cons.mpr ⟨(List.Mem.tail _ (List.Mem.head _)), (List.forall_mem_cons.mpr ⟨(List.Mem.tail _ (List.Mem.tail _ (List.Mem.head _))), (List.forall_mem_cons.mpr ⟨(List.Mem.tail _ (List.Mem.tail _ (List.Mem.tail _ (List.Mem.head _)))), (List.forall_mem_cons.mpr ⟨(List.Mem.head _), (fun q h => absurd h List.not_mem_nil)⟩)⟩)⟩)⟩) ?_
                  exact ih _ a 1 (ka + 1) Is3026 Fs3026 JNW_s3026 (by omega) (by omega) kx
                ·
                  refine d_lift (fun k ws X h => z_aload_n X (x := A 179) (show cdA 227 138 = some (.aload_n 0, 1, 0, 0, 0) from rfl) (List.Mem.tail _ (List.Mem.tail _ (List.Mem.tail _ (List.Mem.head _)))) h) ?_
                  refine d_liftS (fun k s X h => s_getR X 179 (show cdA 227 139 = some (.getfield 64, 3, 12, 33, 0) from rfl) (by decide) rfl rfl h) ?_
                  refine d_lift (fun k ws X h => z_load_n X (x := a) (show cdA 227 142 = some (.iload_n 1, 1, 0, 0, 0) from rfl) (List.Mem.tail _ (List.Mem.tail _ (List.Mem.tail _ (List.Mem.tail _ (List.Mem.head _))))) h) ?_
                  refine d_liftS (fun k s X h => z_aald X rw_230 (show cdA 227 143 = some (.aaload, 1, 0, 0, 0) from rfl) (by omega) (show a < 12 by omega) (by decide) h) ?_
                  refine d_lift (fun k ws X h => z_load_n X (x := ka) (show cdA 227 144 = some (.iload_n 3, 1, 0, 0, 0) from rfl) (List.Mem.tail _ (List.Mem.tail _ (List.Mem.tail _ (List.Mem.tail _ (List.Mem.tail _ (List.Mem.head _)))))) h) ?_
                  refine d_lift (fun k ws X h => z_const X (show cdA 227 145 = some (.iconst 1, 1, 0, 0, 0) from rfl) h) ?_
                  refine d_lift (fun k ws X h => z_sub X (show cdA 227 146 = some (.isub, 1, 0, 0, 0) from rfl) h) ?_
                  refine d_ald2 rw_230 (show cdA 227 147 = some (.iaload, 1, 0, 0, 0) from rfl) (show (a : Int).toNat < 12 by omega) (by omega) (show (ka - 1) < 24 by omega) (by decide) (Or.inr ((htn _ (show (a : Int).toNat < 12 by omega) (show (((a : Int).toNat : Nat) : Int) < iI s 90 by omega)).2.2.2 _ (show ((((ka - 1) : Int).toNat : Nat) : Int) < iC s 202 (a : Int).toNat by omega))) ?_
                  have b3029 : (0 : Int) ≤ (iC t (204 + (a : Int).toNat) ((ka - 1) : Int).toNat) ∧ (iC t (204 + (a : Int).toNat) ((ka - 1) : Int).toNat) ≤ 127 := rw_bd rw_230 I (show (a : Int).toNat < 12 by omega) (show ((ka - 1) : Int).toNat < 24 by omega)
                  refine d_lift (fun k ws X h => z_load X (x := (iC t (204 + (a : Int).toNat) (ka : Int).toNat)) (show cdA 227 148 = some (.iload 4, 2, 0, 0, 0) from rfl) (List.Mem.tail _ (List.Mem.tail _ (List.Mem.head _))) h) ?_
                  refine d_callT (As := [.int (Int32.ofInt (iC t (204 + (a : Int).toNat) ((ka - 1) : Int).toNat)), .int (Int32.ofInt (iC t (204 + (a : Int).toNat) (ka : Int).toNat))]) (st := []) (show cdA 227 150 = some (.invokestatic 312, 3, 225, 1, 0) from rfl) rfl (d_stepOf (T := TU T 161 7) G I (by omega) (by omega) (fun q h => hti q ((by decide : ∀ q ∈ ([] : List Nat), q ∈ ([90, 89] : List Nat)) q h)) (fun a h => hta3001 a ((by decide : ∀ q ∈ ([] : List Nat), q ∈ ([161, 230] : List Nat)) a h))) ⟨rfl, rfl⟩ ⟨(show 6 + 1 ≤ 8 by omega), (show 8 + (mNL (miB 225) + 11) + 100 ≤ 143 by simp only [show mNL (miB 225) = 2 from rfl]; omega)⟩ (Nat.le_of_ble_eq_true rfl) (by decide) (by decide) (fun ee s3030 hq => ?_) (fun vv s3030 hq => ?_)
                  · obtain ⟨Is3030, Fs3030, e3031, hv, hrs3030, hps3030⟩ := hq; cases hv
                  obtain ⟨Is3030, Fs3030, e3031, hv, hrs3030, hps3030⟩ := hq
                  cases hv
                  have Gs3030 := fm_ts F Fs3030 (by decide) (by decide)
                  have JNW_s3030 : NW s3030 := NW_fm Fs3030 (by decide) jjNW
                  show DS l s0 D A dT 227 (rmN 227) [] [161] (TU T 161 7) Q (TU T 161 7) 153 [(5, .int (Int32.ofInt (iC t 230 ((iC t (204 + (a : Int).toNat) ((ka - 1) : Int).toNat)).toNat))), (2, .int (Int32.ofInt 1)), (4, .int (Int32.ofInt (iC t (204 + (a : Int).toNat) (ka : Int).toNat))), (0, .ref (A 179)), (1, .int (Int32.ofInt a)), (3, .int (Int32.ofInt ka))] [.int (Int32.ofInt e3031)] s3030
                  refine d_lift (fun k ws X h => z_const X (show cdA 227 153 = some (.iconst 3, 1, 0, 0, 0) from rfl) h) ?_
                  refine d_br (by omega) (by omega) (fun k ws X h1 h2 => z_icmp_le X (t := 172) (show cdA 227 154 = some (.if_icmp .le 18, 3, 5, 0, 0) from rfl) (by decide) ⟨by omega, by omega⟩ ⟨by omega, by omega⟩ h1 h2) (fun g3032 => ?_) (fun g3032 => ?_)
                  ·
                    refine d_lift (fun k ws X h => z_load_n X (x := a) (show cdA 227 172 = some (.iload_n 1, 1, 0, 0, 0) from rfl) (List.Mem.tail _ (List.Mem.tail _ (List.Mem.tail _ (List.Mem.tail _ (List.Mem.head _))))) h) ?_
                    refine d_lift (fun k ws X h => z_const X (show cdA 227 173 = some (.iconst 1, 1, 0, 0, 0) from rfl) h) ?_
                    refine d_lift (fun k ws X h => z_add X (show cdA 227 174 = some (.iadd, 1, 0, 0, 0) from rfl) h) ?_
                    refine d_lift (fun k ws X h => z_store X (lv' := [(5, .int (Int32.ofInt (a + 1))), (2, .int (Int32.ofInt 1)), (4, .int (Int32.ofInt (iC t (204 + (a : Int).toNat) (ka : Int).toNat))), (0, .ref (A 179)), (1, .int (Int32.ofInt a)), (3, .int (Int32.ofInt ka))]) (show cdA 227 175 = some (.istore 5, 2, 0, 0, 0) from rfl) (by decide) (fun _ h => h) h) ?_
                    refine d_lvs (lv := [(0, .ref (A 179)), (1, .int (Int32.ofInt a)), (2, .int (Int32.ofInt 1)), (3, .int (Int32.ofInt ka)), (4, .int (Int32.ofInt (iC t (204 + (a : Int).toNat) (ka : Int).toNat))), (5, .int (Int32.ofInt (a + 1)))]) (List.forall_mem_cons.mpr ⟨(List.Mem.tail _ (List.Mem.tail _ (List.Mem.tail _ (List.Mem.head _)))), (List.forall_mem_cons.mpr ⟨(List.Mem.tail _ (List.Mem.tail _ (List.Mem.tail _ (List.Mem.tail _ (List.Mem.head _))))), (List.forall_mem_cons.mpr ⟨(List.Mem.tail _ (List.Mem.head _)), (List.forall_mem_cons.mpr ⟨(List.Mem.tail _ (List.Mem.tail _ (List.Mem.tail _ (List.Mem.tail _ (List.Mem.tail _ (List.Mem.head _)))))), (List.forall_mem_cons.mpr ⟨(List.Mem.tail _ (List.Mem.tail _ (List.Mem.head _))), (List.forall_mem_cons.mpr ⟨(List.Mem.head _), (fun q h => absurd h List.not_mem_nil)⟩)⟩)⟩)⟩)⟩)⟩) ?_
                    refine L177 ((12 - (a + 1) : Int)).toNat s3030 a 1 ka (iC t (204 + (a : Int).toNat) (ka : Int).toNat) (a + 1) Is3030 Gs3030 JNW_s3030 (by omega) (by omega) ?_
                    intro s3033 x3034 Is3033 Fs3033 JNW_s3033 hs3033
                    have hta3035 : ∀ a ∈ ([161, 230] : List Nat), ∀ j, j < (bA a).2.2 → (TU T 161 7).2 a j := hta_g hta (by decide)
                    refine d_lift (fun k ws X h => z_inc X (x := ka) (lv' := [(3, .int (Int32.ofInt (ka + 1))), (0, .ref (A 179)), (1, .int (Int32.ofInt a)), (2, .int (Int32.ofInt 1)), (4, .int (Int32.ofInt (iC t (204 + (a : Int).toNat) (ka : Int).toNat))), (5, .int (Int32.ofInt x3034))]) (show cdA 227 278 = some (.iinc 3 1, 3, 0, 0, 0) from rfl) (by decide) (List.Mem.tail _ (List.Mem.tail _ (List.Mem.tail _ (List.Mem.head _)))) (fun _ h => h) h) ?_
                    refine d_lift (fun k ws X h => z_goto X (t := 35) (show cdA 227 281 = some (.goto (-246), 3, 0, 0, 0) from rfl) (by decide) h) ?_
                    refine d_lvs (lv := [(0, .ref (A 179)), (1, .int (Int32.ofInt a)), (2, .int (Int32.ofInt 1)), (3, .int (Int32.ofInt (ka + 1)))]) (List.forall_mem_cons.mpr ⟨(List.Mem.tail _ (List.Mem.head _)), (List.forall_mem_cons.mpr ⟨(List.Mem.tail _ (List.Mem.tail _ (List.Mem.head _))), (List.forall_mem_cons.mpr ⟨(List.Mem.tail _ (List.Mem.tail _ (List.Mem.tail _ (List.Mem.head _)))), (List.forall_mem_cons.mpr ⟨(List.Mem.head _), (fun q h => absurd h List.not_mem_nil)⟩)⟩)⟩)⟩) ?_
                    exact ih _ a 1 (ka + 1) Is3033 Fs3033 JNW_s3033 (by omega) (by omega) kx
                  ·
                    refine d_lift (fun k ws X h => z_aload_n X (x := A 179) (show cdA 227 157 = some (.aload_n 0, 1, 0, 0, 0) from rfl) (List.Mem.tail _ (List.Mem.tail _ (List.Mem.tail _ (List.Mem.head _)))) h) ?_
                    refine d_liftS (fun k s X h => s_getR X 179 (show cdA 227 158 = some (.getfield 32, 3, 12, 21, 0) from rfl) (by decide) rfl rfl h) ?_
                    refine d_lift (fun k ws X h => z_const X (show cdA 227 161 = some (.iconst 3, 1, 0, 0, 0) from rfl) h) ?_
                    refine d_lift (fun k ws X h => w_dup2_11 X.1 (ax_d X (show cdA 227 162 = some (.dup2, 1, 0, 0, 0) from rfl)) rfl rfl h) ?_
                    refine d_ald 184 (show cdA 227 163 = some (.iaload, 1, 0, 0, 0) from rfl) (by decide) rfl (by omega) (show 3 < 7 by omega) (by decide) (hta3001 161 (by decide) _ (show (3 : Int).toNat < 7 by omega)) ?_
                    have b3036 : ((-2147483648) : Int) ≤ iC s3030 161 (3 : Int).toNat ∧ iC s3030 161 (3 : Int).toNat ≤ 2147483647 := Is3030.2 161 _ (show (3 : Int).toNat < 7 by omega)
                    refine d_lift (fun k ws X h => z_aload_n X (x := A 179) (show cdA 227 164 = some (.aload_n 0, 1, 0, 0, 0) from rfl) (List.Mem.tail _ (List.Mem.tail _ (List.Mem.tail _ (List.Mem.head _)))) h) ?_
                    refine d_liftS (fun k s X h => s_getR X 179 (show cdA 227 165 = some (.getfield 61, 3, 12, 32, 0) from rfl) (by decide) rfl rfl h) ?_
                    refine d_lift (fun k ws X h => z_load_n X (x := a) (show cdA 227 168 = some (.iload_n 1, 1, 0, 0, 0) from rfl) (List.Mem.tail _ (List.Mem.tail _ (List.Mem.tail _ (List.Mem.tail _ (List.Mem.head _))))) h) ?_
                    refine d_ald 229 (show cdA 227 169 = some (.iaload, 1, 0, 0, 0) from rfl) (by decide) rfl (by omega) (show a < 12 by omega) (by decide) (Or.inr ((htn _ (show (a : Int).toNat < 12 by omega) (show (((a : Int).toNat : Nat) : Int) < iI s 90 by omega)).2.1)) ?_
                    have b3037 : (0 : Int) ≤ iC s3030 203 (a).toNat ∧ iC s3030 203 (a).toNat ≤ 50 := Is3030.2 203 _ (show (a).toNat < 12 by omega)
                    have q3038 : iC s3030 203 (a).toNat = iC s 203 (a).toNat := fm_c Gs3030 (by decide)
                    refine d_lift (fun k ws X h => z_add X (show cdA 227 170 = some (.iadd, 1, 0, 0, 0) from rfl) h) ?_
                    refine d_any (fun y3039 hy3039 => ?_)
                    refine d_ast 184 (show cdA 227 171 = some (.iastore, 1, 0, 0, 0) from rfl) (by decide) rfl (by omega) (show 3 < 7 by omega) (by decide) (show 161 ∈ _ by decide) (show ((-2147483648) : Int) ≤ y3039 ∧ y3039 ≤ 2147483647 by omega) ⟨by omega, by omega⟩ ?_
                    refine d_mono (T' := TU T 161 7) (fun _ h => h) (fun _ _ h => Or.inr h) ?_
                    obtain ⟨s3040, hs3040⟩ : ∃ x0, x0 = uC s3030 161 (3 : Int).toNat (Int32.ofInt y3039) := ⟨_, rfl⟩
                    rw [← hs3040]
                    have Is3040 : Bd s3040 := by rw [hs3040]; exact bd_C Is3030 (show ((-2147483648) : Int) ≤ y3039 ∧ y3039 ≤ 2147483647 by omega) ⟨by omega, by omega⟩
                    have Fs3040 := fm_C (i := (3 : Int).toNat) (x := Int32.ofInt y3039) Gs3030 (show 161 ∈ _ by decide)
                    rw [← hs3040] at Fs3040
                    have fs3040 : Fm [] [161] s3030 s3040 := by rw [hs3040]; exact fm_C (fm_rf _ _ _) (show 161 ∈ _ by decide)
                    have JNW_s3040 : NW s3040 := NW_fm fs3040 (by decide) JNW_s3030
                    refine d_lift (fun k ws X h => z_load_n X (x := a) (show cdA 227 172 = some (.iload_n 1, 1, 0, 0, 0) from rfl) (List.Mem.tail _ (List.Mem.tail _ (List.Mem.tail _ (List.Mem.tail _ (List.Mem.head _))))) h) ?_
                    refine d_lift (fun k ws X h => z_const X (show cdA 227 173 = some (.iconst 1, 1, 0, 0, 0) from rfl) h) ?_
                    refine d_lift (fun k ws X h => z_add X (show cdA 227 174 = some (.iadd, 1, 0, 0, 0) from rfl) h) ?_
                    refine d_lift (fun k ws X h => z_store X (lv' := [(5, .int (Int32.ofInt (a + 1))), (2, .int (Int32.ofInt 1)), (4, .int (Int32.ofInt (iC t (204 + (a : Int).toNat) (ka : Int).toNat))), (0, .ref (A 179)), (1, .int (Int32.ofInt a)), (3, .int (Int32.ofInt ka))]) (show cdA 227 175 = some (.istore 5, 2, 0, 0, 0) from rfl) (by decide) (fun _ h => h) h) ?_
                    refine d_lvs (lv := [(0, .ref (A 179)), (1, .int (Int32.ofInt a)), (2, .int (Int32.ofInt 1)), (3, .int (Int32.ofInt ka)), (4, .int (Int32.ofInt (iC t (204 + (a : Int).toNat) (ka : Int).toNat))), (5, .int (Int32.ofInt (a + 1)))]) (List.forall_mem_cons.mpr ⟨(List.Mem.tail _ (List.Mem.tail _ (List.Mem.tail _ (List.Mem.head _)))), (List.forall_mem_cons.mpr ⟨(List.Mem.tail _ (List.Mem.tail _ (List.Mem.tail _ (List.Mem.tail _ (List.Mem.head _))))), (List.forall_mem_cons.mpr ⟨(List.Mem.tail _ (List.Mem.head _)), (List.forall_mem_cons.mpr ⟨(List.Mem.tail _ (List.Mem.tail _ (List.Mem.tail _ (List.Mem.tail _ (List.Mem.tail _ (List.Mem.head _)))))), (List.forall_mem_cons.mpr ⟨(List.Mem.tail _ (List.Mem.tail _ (List.Mem.head _))), (List.forall_mem_cons.mpr ⟨(List.Mem.head _), (fun q h => absurd h List.not_mem_nil)⟩)⟩)⟩)⟩)⟩)⟩) ?_
                    refine L177 ((12 - (a + 1) : Int)).toNat s3040 a 1 ka (iC t (204 + (a : Int).toNat) (ka : Int).toNat) (a + 1) Is3040 Fs3040 JNW_s3040 (by omega) (by omega) ?_
                    intro s3041 x3042 Is3041 Fs3041 JNW_s3041 hs3041
                    have hta3043 : ∀ a ∈ ([161, 230] : List Nat), ∀ j, j < (bA a).2.2 → (TU T 161 7).2 a j := hta_g hta (by decide)
                    refine d_lift (fun k ws X h => z_inc X (x := ka) (lv' := [(3, .int (Int32.ofInt (ka + 1))), (0, .ref (A 179)), (1, .int (Int32.ofInt a)), (2, .int (Int32.ofInt 1)), (4, .int (Int32.ofInt (iC t (204 + (a : Int).toNat) (ka : Int).toNat))), (5, .int (Int32.ofInt x3042))]) (show cdA 227 278 = some (.iinc 3 1, 3, 0, 0, 0) from rfl) (by decide) (List.Mem.tail _ (List.Mem.tail _ (List.Mem.tail _ (List.Mem.head _)))) (fun _ h => h) h) ?_
                    refine d_lift (fun k ws X h => z_goto X (t := 35) (show cdA 227 281 = some (.goto (-246), 3, 0, 0, 0) from rfl) (by decide) h) ?_
                    refine d_lvs (lv := [(0, .ref (A 179)), (1, .int (Int32.ofInt a)), (2, .int (Int32.ofInt 1)), (3, .int (Int32.ofInt (ka + 1)))]) (List.forall_mem_cons.mpr ⟨(List.Mem.tail _ (List.Mem.head _)), (List.forall_mem_cons.mpr ⟨(List.Mem.tail _ (List.Mem.tail _ (List.Mem.head _))), (List.forall_mem_cons.mpr ⟨(List.Mem.tail _ (List.Mem.tail _ (List.Mem.tail _ (List.Mem.head _)))), (List.forall_mem_cons.mpr ⟨(List.Mem.head _), (fun q h => absurd h List.not_mem_nil)⟩)⟩)⟩)⟩) ?_
                    exact ih _ a 1 (ka + 1) Is3041 Fs3041 JNW_s3041 (by omega) (by omega) kx
            ·
              refine d_lift (fun k ws X h => z_aload_n X (x := A 179) (show cdA 227 108 = some (.aload_n 0, 1, 0, 0, 0) from rfl) (List.Mem.tail _ (List.Mem.tail _ (List.Mem.tail _ (List.Mem.head _)))) h) ?_
              refine d_liftS (fun k s X h => s_getR X 179 (show cdA 227 109 = some (.getfield 32, 3, 12, 21, 0) from rfl) (by decide) rfl rfl h) ?_
              refine d_lift (fun k ws X h => z_const X (show cdA 227 112 = some (.iconst 2, 1, 0, 0, 0) from rfl) h) ?_
              refine d_lift (fun k ws X h => w_dup2_11 X.1 (ax_d X (show cdA 227 113 = some (.dup2, 1, 0, 0, 0) from rfl)) rfl rfl h) ?_
              refine d_ald 184 (show cdA 227 114 = some (.iaload, 1, 0, 0, 0) from rfl) (by decide) rfl (by omega) (show 2 < 7 by omega) (by decide) (hta3001 161 (by decide) _ (show (2 : Int).toNat < 7 by omega)) ?_
              have b3044 : ((-2147483648) : Int) ≤ iC t 161 (2 : Int).toNat ∧ iC t 161 (2 : Int).toNat ≤ 2147483647 := I.2 161 _ (show (2 : Int).toNat < 7 by omega)
              refine d_lift (fun k ws X h => z_aload_n X (x := A 179) (show cdA 227 115 = some (.aload_n 0, 1, 0, 0, 0) from rfl) (List.Mem.tail _ (List.Mem.tail _ (List.Mem.tail _ (List.Mem.head _)))) h) ?_
              refine d_liftS (fun k s X h => s_getR X 179 (show cdA 227 116 = some (.getfield 61, 3, 12, 32, 0) from rfl) (by decide) rfl rfl h) ?_
              refine d_lift (fun k ws X h => z_load_n X (x := a) (show cdA 227 119 = some (.iload_n 1, 1, 0, 0, 0) from rfl) (List.Mem.tail _ (List.Mem.tail _ (List.Mem.tail _ (List.Mem.tail _ (List.Mem.head _))))) h) ?_
              refine d_ald 229 (show cdA 227 120 = some (.iaload, 1, 0, 0, 0) from rfl) (by decide) rfl (by omega) (show a < 12 by omega) (by decide) (Or.inr ((htn _ (show (a : Int).toNat < 12 by omega) (show (((a : Int).toNat : Nat) : Int) < iI s 90 by omega)).2.1)) ?_
              have b3045 : (0 : Int) ≤ iC t 203 (a).toNat ∧ iC t 203 (a).toNat ≤ 50 := I.2 203 _ (show (a).toNat < 12 by omega)
              have q3046 : iC t 203 (a).toNat = iC s 203 (a).toNat := fm_c F (by decide)
              refine d_lift (fun k ws X h => z_add X (show cdA 227 121 = some (.iadd, 1, 0, 0, 0) from rfl) h) ?_
              refine d_any (fun y3047 hy3047 => ?_)
              refine d_ast 184 (show cdA 227 122 = some (.iastore, 1, 0, 0, 0) from rfl) (by decide) rfl (by omega) (show 2 < 7 by omega) (by decide) (show 161 ∈ _ by decide) (show ((-2147483648) : Int) ≤ y3047 ∧ y3047 ≤ 2147483647 by omega) ⟨by omega, by omega⟩ ?_
              refine d_mono (T' := TU T 161 7) (fun _ h => h) (fun _ _ h => Or.inr h) ?_
              obtain ⟨s3048, hs3048⟩ : ∃ x0, x0 = uC t 161 (2 : Int).toNat (Int32.ofInt y3047) := ⟨_, rfl⟩
              rw [← hs3048]
              have Is3048 : Bd s3048 := by rw [hs3048]; exact bd_C I (show ((-2147483648) : Int) ≤ y3047 ∧ y3047 ≤ 2147483647 by omega) ⟨by omega, by omega⟩
              have Fs3048 := fm_C (i := (2 : Int).toNat) (x := Int32.ofInt y3047) F (show 161 ∈ _ by decide)
              rw [← hs3048] at Fs3048
              have fs3048 : Fm [] [161] t s3048 := by rw [hs3048]; exact fm_C (fm_rf _ _ _) (show 161 ∈ _ by decide)
              have JNW_s3048 : NW s3048 := NW_fm fs3048 (by decide) jjNW
              refine d_lift (fun k ws X h => z_load X (x := (iC t 230 ((iC t (204 + (a : Int).toNat) ((ka - 1) : Int).toNat)).toNat)) (show cdA 227 123 = some (.iload 5, 2, 0, 0, 0) from rfl) (List.Mem.head _) h) ?_
              refine d_br (by omega) (by omega) (fun k ws X h1 h2 => z_if_eq X (t := 172) (show cdA 227 125 = some (.ifCond .eq 47, 3, 0, 0, 0) from rfl) (by decide) ⟨by omega, by omega⟩ h1 h2) (fun g3049 => ?_) (fun g3049 => ?_)
              ·
                refine d_lift (fun k ws X h => z_load_n X (x := a) (show cdA 227 172 = some (.iload_n 1, 1, 0, 0, 0) from rfl) (List.Mem.tail _ (List.Mem.tail _ (List.Mem.tail _ (List.Mem.tail _ (List.Mem.head _))))) h) ?_
                refine d_lift (fun k ws X h => z_const X (show cdA 227 173 = some (.iconst 1, 1, 0, 0, 0) from rfl) h) ?_
                refine d_lift (fun k ws X h => z_add X (show cdA 227 174 = some (.iadd, 1, 0, 0, 0) from rfl) h) ?_
                refine d_lift (fun k ws X h => z_store X (lv' := [(5, .int (Int32.ofInt (a + 1))), (2, .int (Int32.ofInt 1)), (4, .int (Int32.ofInt (iC t (204 + (a : Int).toNat) (ka : Int).toNat))), (0, .ref (A 179)), (1, .int (Int32.ofInt a)), (3, .int (Int32.ofInt ka))]) (show cdA 227 175 = some (.istore 5, 2, 0, 0, 0) from rfl) (by decide) (fun _ h => h) h) ?_
                refine d_lvs (lv := [(0, .ref (A 179)), (1, .int (Int32.ofInt a)), (2, .int (Int32.ofInt 1)), (3, .int (Int32.ofInt ka)), (4, .int (Int32.ofInt (iC t (204 + (a : Int).toNat) (ka : Int).toNat))), (5, .int (Int32.ofInt (a + 1)))]) (List.forall_mem_cons.mpr ⟨(List.Mem.tail _ (List.Mem.tail _ (List.Mem.tail _ (List.Mem.head _)))), (List.forall_mem_cons.mpr ⟨(List.Mem.tail _ (List.Mem.tail _ (List.Mem.tail _ (List.Mem.tail _ (List.Mem.head _))))), (List.forall_mem_cons.mpr ⟨(List.Mem.tail _ (List.Mem.head _)), (List.forall_mem_cons.mpr ⟨(List.Mem.tail _ (List.Mem.tail _ (List.Mem.tail _ (List.Mem.tail _ (List.Mem.tail _ (List.Mem.head _)))))), (List.forall_mem_cons.mpr ⟨(List.Mem.tail _ (List.Mem.tail _ (List.Mem.head _))), (List.forall_mem_cons.mpr ⟨(List.Mem.head _), (fun q h => absurd h List.not_mem_nil)⟩)⟩)⟩)⟩)⟩)⟩) ?_
                refine L177 ((12 - (a + 1) : Int)).toNat s3048 a 1 ka (iC t (204 + (a : Int).toNat) (ka : Int).toNat) (a + 1) Is3048 Fs3048 JNW_s3048 (by omega) (by omega) ?_
                intro s3050 x3051 Is3050 Fs3050 JNW_s3050 hs3050
                have hta3052 : ∀ a ∈ ([161, 230] : List Nat), ∀ j, j < (bA a).2.2 → (TU T 161 7).2 a j := hta_g hta (by decide)
                refine d_lift (fun k ws X h => z_inc X (x := ka) (lv' := [(3, .int (Int32.ofInt (ka + 1))), (0, .ref (A 179)), (1, .int (Int32.ofInt a)), (2, .int (Int32.ofInt 1)), (4, .int (Int32.ofInt (iC t (204 + (a : Int).toNat) (ka : Int).toNat))), (5, .int (Int32.ofInt x3051))]) (show cdA 227 278 = some (.iinc 3 1, 3, 0, 0, 0) from rfl) (by decide) (List.Mem.tail _ (List.Mem.tail _ (List.Mem.tail _ (List.Mem.head _)))) (fun _ h => h) h) ?_
                refine d_lift (fun k ws X h => z_goto X (t := 35) (show cdA 227 281 = some (.goto (-246), 3, 0, 0, 0) from rfl) (by decide) h) ?_
                refine d_lvs (lv := [(0, .ref (A 179)), (1, .int (Int32.ofInt a)), (2, .int (Int32.ofInt 1)), (3, .int (Int32.ofInt (ka + 1)))]) (List.forall_mem_cons.mpr ⟨(List.Mem.tail _ (List.Mem.head _)), (List.forall_mem_cons.mpr ⟨(List.Mem.tail _ (List.Mem.tail _ (List.Mem.head _))), (List.forall_mem_cons.mpr ⟨(List.Mem.tail _ (List.Mem.tail _ (List.Mem.tail _ (List.Mem.head _)))), (List.forall_mem_cons.mpr ⟨(List.Mem.head _), (fun q h => absurd h List.not_mem_nil)⟩)⟩)⟩)⟩) ?_
                exact ih _ a 1 (ka + 1) Is3050 Fs3050 JNW_s3050 (by omega) (by omega) kx
              ·
                refine d_lift (fun k ws X h => z_aload_n X (x := A 179) (show cdA 227 128 = some (.aload_n 0, 1, 0, 0, 0) from rfl) (List.Mem.tail _ (List.Mem.tail _ (List.Mem.tail _ (List.Mem.head _)))) h) ?_
                refine d_liftS (fun k s X h => s_getR X 179 (show cdA 227 129 = some (.getfield 76, 3, 12, 37, 0) from rfl) (by decide) rfl rfl h) ?_
                refine d_lift (fun k ws X h => z_load X (x := (iC t (204 + (a : Int).toNat) (ka : Int).toNat)) (show cdA 227 132 = some (.iload 4, 2, 0, 0, 0) from rfl) (List.Mem.tail _ (List.Mem.tail _ (List.Mem.head _))) h) ?_
                refine d_zald 258 (show cdA 227 134 = some (.baload, 1, 0, 0, 0) from rfl) (by decide) rfl (by omega) (show (iC t (204 + (a : Int).toNat) (ka : Int).toNat) < 128 by omega) (by decide) (hta3001 230 (by decide) _ (show ((iC t (204 + (a : Int).toNat) (ka : Int).toNat)).toNat < 128 by omega)) ?_
                have b3053 : (0 : Int) ≤ iC s3048 230 ((iC t (204 + (a : Int).toNat) (ka : Int).toNat)).toNat ∧ iC s3048 230 ((iC t (204 + (a : Int).toNat) (ka : Int).toNat)).toNat ≤ 1 := Is3048.2 230 _ (show ((iC t (204 + (a : Int).toNat) (ka : Int).toNat)).toNat < 128 by omega)
                have q3054 : iC s3048 230 ((iC t (204 + (a : Int).toNat) (ka : Int).toNat)).toNat = iC s 230 ((iC t (204 + (a : Int).toNat) (ka : Int).toNat)).toNat := fm_c Fs3048 (by decide)
                refine d_br (by omega) (by omega) (fun k ws X h1 h2 => z_if_eq X (t := 172) (show cdA 227 135 = some (.ifCond .eq 37, 3, 0, 0, 0) from rfl) (by decide) ⟨by omega, by omega⟩ h1 h2) (fun g3055 => ?_) (fun g3055 => ?_)
                ·
                  refine d_lift (fun k ws X h => z_load_n X (x := a) (show cdA 227 172 = some (.iload_n 1, 1, 0, 0, 0) from rfl) (List.Mem.tail _ (List.Mem.tail _ (List.Mem.tail _ (List.Mem.tail _ (List.Mem.head _))))) h) ?_
                  refine d_lift (fun k ws X h => z_const X (show cdA 227 173 = some (.iconst 1, 1, 0, 0, 0) from rfl) h) ?_
                  refine d_lift (fun k ws X h => z_add X (show cdA 227 174 = some (.iadd, 1, 0, 0, 0) from rfl) h) ?_
                  refine d_lift (fun k ws X h => z_store X (lv' := [(5, .int (Int32.ofInt (a + 1))), (2, .int (Int32.ofInt 1)), (4, .int (Int32.ofInt (iC t (204 + (a : Int).toNat) (ka : Int).toNat))), (0, .ref (A 179)), (1, .int (Int32.ofInt a)), (3, .int (Int32.ofInt ka))]) (show cdA 227 175 = some (.istore 5, 2, 0, 0, 0) from rfl) (by decide) (fun _ h => h) h) ?_
                  refine d_lvs (lv := [(0, .ref (A 179)), (1, .int (Int32.ofInt a)), (2, .int (Int32.ofInt 1)), (3, .int (Int32.ofInt ka)), (4, .int (Int32.ofInt (iC t (204 + (a : Int).toNat) (ka : Int).toNat))), (5, .int (Int32.ofInt (a + 1)))]) (List.forall_mem_cons.mpr ⟨(List.Mem.tail _ (List.Mem.tail _ (List.Mem.tail _ (List.Mem.head _)))), (List.forall_mem_cons.mpr ⟨(List.Mem.tail _ (List.Mem.tail _ (List.Mem.tail _ (List.Mem.tail _ (List.Mem.head _))))), (List.forall_mem_cons.mpr ⟨(List.Mem.tail _ (List.Mem.head _)), (List.forall_mem_cons.mpr ⟨(List.Mem.tail _ (List.Mem.tail _ (List.Mem.tail _ (List.Mem.tail _ (List.Mem.tail _ (List.Mem.head _)))))), (List.forall_mem_cons.mpr ⟨(List.Mem.tail _ (List.Mem.tail _ (List.Mem.head _))), (List.forall_mem_cons.mpr ⟨(List.Mem.head _), (fun q h => absurd h List.not_mem_nil)⟩)⟩)⟩)⟩)⟩)⟩) ?_
                  refine L177 ((12 - (a + 1) : Int)).toNat s3048 a 1 ka (iC t (204 + (a : Int).toNat) (ka : Int).toNat) (a + 1) Is3048 Fs3048 JNW_s3048 (by omega) (by omega) ?_
                  intro s3056 x3057 Is3056 Fs3056 JNW_s3056 hs3056
                  have hta3058 : ∀ a ∈ ([161, 230] : List Nat), ∀ j, j < (bA a).2.2 → (TU T 161 7).2 a j := hta_g hta (by decide)
                  refine d_lift (fun k ws X h => z_inc X (x := ka) (lv' := [(3, .int (Int32.ofInt (ka + 1))), (0, .ref (A 179)), (1, .int (Int32.ofInt a)), (2, .int (Int32.ofInt 1)), (4, .int (Int32.ofInt (iC t (204 + (a : Int).toNat) (ka : Int).toNat))), (5, .int (Int32.ofInt x3057))]) (show cdA 227 278 = some (.iinc 3 1, 3, 0, 0, 0) from rfl) (by decide) (List.Mem.tail _ (List.Mem.tail _ (List.Mem.tail _ (List.Mem.head _)))) (fun _ h => h) h) ?_
                  refine d_lift (fun k ws X h => z_goto X (t := 35) (show cdA 227 281 = some (.goto (-246), 3, 0, 0, 0) from rfl) (by decide) h) ?_
                  refine d_lvs (lv := [(0, .ref (A 179)), (1, .int (Int32.ofInt a)), (2, .int (Int32.ofInt 1)), (3, .int (Int32.ofInt (ka + 1)))]) (List.forall_mem_cons.mpr ⟨(List.Mem.tail _ (List.Mem.head _)), (List.forall_mem_cons.mpr ⟨(List.Mem.tail _ (List.Mem.tail _ (List.Mem.head _))), (List.forall_mem_cons.mpr ⟨(List.Mem.tail _ (List.Mem.tail _ (List.Mem.tail _ (List.Mem.head _)))), (List.forall_mem_cons.mpr ⟨(List.Mem.head _), (fun q h => absurd h List.not_mem_nil)⟩)⟩)⟩)⟩) ?_
                  exact ih _ a 1 (ka + 1) Is3056 Fs3056 JNW_s3056 (by omega) (by omega) kx
                ·
                  refine d_lift (fun k ws X h => z_aload_n X (x := A 179) (show cdA 227 138 = some (.aload_n 0, 1, 0, 0, 0) from rfl) (List.Mem.tail _ (List.Mem.tail _ (List.Mem.tail _ (List.Mem.head _)))) h) ?_
                  refine d_liftS (fun k s X h => s_getR X 179 (show cdA 227 139 = some (.getfield 64, 3, 12, 33, 0) from rfl) (by decide) rfl rfl h) ?_
                  refine d_lift (fun k ws X h => z_load_n X (x := a) (show cdA 227 142 = some (.iload_n 1, 1, 0, 0, 0) from rfl) (List.Mem.tail _ (List.Mem.tail _ (List.Mem.tail _ (List.Mem.tail _ (List.Mem.head _))))) h) ?_
                  refine d_liftS (fun k s X h => z_aald X rw_230 (show cdA 227 143 = some (.aaload, 1, 0, 0, 0) from rfl) (by omega) (show a < 12 by omega) (by decide) h) ?_
                  refine d_lift (fun k ws X h => z_load_n X (x := ka) (show cdA 227 144 = some (.iload_n 3, 1, 0, 0, 0) from rfl) (List.Mem.tail _ (List.Mem.tail _ (List.Mem.tail _ (List.Mem.tail _ (List.Mem.tail _ (List.Mem.head _)))))) h) ?_
                  refine d_lift (fun k ws X h => z_const X (show cdA 227 145 = some (.iconst 1, 1, 0, 0, 0) from rfl) h) ?_
                  refine d_lift (fun k ws X h => z_sub X (show cdA 227 146 = some (.isub, 1, 0, 0, 0) from rfl) h) ?_
                  refine d_ald2 rw_230 (show cdA 227 147 = some (.iaload, 1, 0, 0, 0) from rfl) (show (a : Int).toNat < 12 by omega) (by omega) (show (ka - 1) < 24 by omega) (by decide) (Or.inr ((htn _ (show (a : Int).toNat < 12 by omega) (show (((a : Int).toNat : Nat) : Int) < iI s 90 by omega)).2.2.2 _ (show ((((ka - 1) : Int).toNat : Nat) : Int) < iC s 202 (a : Int).toNat by omega))) ?_
                  have b3059 : (0 : Int) ≤ (iC s3048 (204 + (a : Int).toNat) ((ka - 1) : Int).toNat) ∧ (iC s3048 (204 + (a : Int).toNat) ((ka - 1) : Int).toNat) ≤ 127 := rw_bd rw_230 Is3048 (show (a : Int).toNat < 12 by omega) (show ((ka - 1) : Int).toNat < 24 by omega)
                  refine d_lift (fun k ws X h => z_load X (x := (iC t (204 + (a : Int).toNat) (ka : Int).toNat)) (show cdA 227 148 = some (.iload 4, 2, 0, 0, 0) from rfl) (List.Mem.tail _ (List.Mem.tail _ (List.Mem.head _))) h) ?_
                  refine d_callT (As := [.int (Int32.ofInt (iC s3048 (204 + (a : Int).toNat) ((ka - 1) : Int).toNat)), .int (Int32.ofInt (iC t (204 + (a : Int).toNat) (ka : Int).toNat))]) (st := []) (show cdA 227 150 = some (.invokestatic 312, 3, 225, 1, 0) from rfl) rfl (d_stepOf (T := TU T 161 7) G Is3048 (by omega) (by omega) (fun q h => hti q ((by decide : ∀ q ∈ ([] : List Nat), q ∈ ([90, 89] : List Nat)) q h)) (fun a h => hta3001 a ((by decide : ∀ q ∈ ([] : List Nat), q ∈ ([161, 230] : List Nat)) a h))) ⟨rfl, rfl⟩ ⟨(show 6 + 1 ≤ 8 by omega), (show 8 + (mNL (miB 225) + 11) + 100 ≤ 143 by simp only [show mNL (miB 225) = 2 from rfl]; omega)⟩ (Nat.le_of_ble_eq_true rfl) (by decide) (by decide) (fun ee s3060 hq => ?_) (fun vv s3060 hq => ?_)
                  · obtain ⟨Is3060, Fs3060, e3061, hv, hrs3060, hps3060⟩ := hq; cases hv
                  obtain ⟨Is3060, Fs3060, e3061, hv, hrs3060, hps3060⟩ := hq
                  cases hv
                  have Gs3060 := fm_ts Fs3048 Fs3060 (by decide) (by decide)
                  have JNW_s3060 : NW s3060 := NW_fm Fs3060 (by decide) JNW_s3048
                  show DS l s0 D A dT 227 (rmN 227) [] [161] (TU T 161 7) Q (TU T 161 7) 153 [(5, .int (Int32.ofInt (iC t 230 ((iC t (204 + (a : Int).toNat) ((ka - 1) : Int).toNat)).toNat))), (2, .int (Int32.ofInt 1)), (4, .int (Int32.ofInt (iC t (204 + (a : Int).toNat) (ka : Int).toNat))), (0, .ref (A 179)), (1, .int (Int32.ofInt a)), (3, .int (Int32.ofInt ka))] [.int (Int32.ofInt e3061)] s3060
                  refine d_lift (fun k ws X h => z_const X (show cdA 227 153 = some (.iconst 3, 1, 0, 0, 0) from rfl) h) ?_
                  refine d_br (by omega) (by omega) (fun k ws X h1 h2 => z_icmp_le X (t := 172) (show cdA 227 154 = some (.if_icmp .le 18, 3, 5, 0, 0) from rfl) (by decide) ⟨by omega, by omega⟩ ⟨by omega, by omega⟩ h1 h2) (fun g3062 => ?_) (fun g3062 => ?_)
                  ·
                    refine d_lift (fun k ws X h => z_load_n X (x := a) (show cdA 227 172 = some (.iload_n 1, 1, 0, 0, 0) from rfl) (List.Mem.tail _ (List.Mem.tail _ (List.Mem.tail _ (List.Mem.tail _ (List.Mem.head _))))) h) ?_
                    refine d_lift (fun k ws X h => z_const X (show cdA 227 173 = some (.iconst 1, 1, 0, 0, 0) from rfl) h) ?_
                    refine d_lift (fun k ws X h => z_add X (show cdA 227 174 = some (.iadd, 1, 0, 0, 0) from rfl) h) ?_
                    refine d_lift (fun k ws X h => z_store X (lv' := [(5, .int (Int32.ofInt (a + 1))), (2, .int (Int32.ofInt 1)), (4, .int (Int32.ofInt (iC t (204 + (a : Int).toNat) (ka : Int).toNat))), (0, .ref (A 179)), (1, .int (Int32.ofInt a)), (3, .int (Int32.ofInt ka))]) (show cdA 227 175 = some (.istore 5, 2, 0, 0, 0) from rfl) (by decide) (fun _ h => h) h) ?_
                    refine d_lvs (lv := [(0, .ref (A 179)), (1, .int (Int32.ofInt a)), (2, .int (Int32.ofInt 1)), (3, .int (Int32.ofInt ka)), (4, .int (Int32.ofInt (iC t (204 + (a : Int).toNat) (ka : Int).toNat))), (5, .int (Int32.ofInt (a + 1)))]) (List.forall_mem_cons.mpr ⟨(List.Mem.tail _ (List.Mem.tail _ (List.Mem.tail _ (List.Mem.head _)))), (List.forall_mem_cons.mpr ⟨(List.Mem.tail _ (List.Mem.tail _ (List.Mem.tail _ (List.Mem.tail _ (List.Mem.head _))))), (List.forall_mem_cons.mpr ⟨(List.Mem.tail _ (List.Mem.head _)), (List.forall_mem_cons.mpr ⟨(List.Mem.tail _ (List.Mem.tail _ (List.Mem.tail _ (List.Mem.tail _ (List.Mem.tail _ (List.Mem.head _)))))), (List.forall_mem_cons.mpr ⟨(List.Mem.tail _ (List.Mem.tail _ (List.Mem.head _))), (List.forall_mem_cons.mpr ⟨(List.Mem.head _), (fun q h => absurd h List.not_mem_nil)⟩)⟩)⟩)⟩)⟩)⟩) ?_
                    refine L177 ((12 - (a + 1) : Int)).toNat s3060 a 1 ka (iC t (204 + (a : Int).toNat) (ka : Int).toNat) (a + 1) Is3060 Gs3060 JNW_s3060 (by omega) (by omega) ?_
                    intro s3063 x3064 Is3063 Fs3063 JNW_s3063 hs3063
                    have hta3065 : ∀ a ∈ ([161, 230] : List Nat), ∀ j, j < (bA a).2.2 → (TU T 161 7).2 a j := hta_g hta (by decide)
                    refine d_lift (fun k ws X h => z_inc X (x := ka) (lv' := [(3, .int (Int32.ofInt (ka + 1))), (0, .ref (A 179)), (1, .int (Int32.ofInt a)), (2, .int (Int32.ofInt 1)), (4, .int (Int32.ofInt (iC t (204 + (a : Int).toNat) (ka : Int).toNat))), (5, .int (Int32.ofInt x3064))]) (show cdA 227 278 = some (.iinc 3 1, 3, 0, 0, 0) from rfl) (by decide) (List.Mem.tail _ (List.Mem.tail _ (List.Mem.tail _ (List.Mem.head _)))) (fun _ h => h) h) ?_
                    refine d_lift (fun k ws X h => z_goto X (t := 35) (show cdA 227 281 = some (.goto (-246), 3, 0, 0, 0) from rfl) (by decide) h) ?_
                    refine d_lvs (lv := [(0, .ref (A 179)), (1, .int (Int32.ofInt a)), (2, .int (Int32.ofInt 1)), (3, .int (Int32.ofInt (ka + 1)))]) (List.forall_mem_cons.mpr ⟨(List.Mem.tail _ (List.Mem.head _)), (List.forall_mem_cons.mpr ⟨(List.Mem.tail _ (List.Mem.tail _ (List.Mem.head _))), (List.forall_mem_cons.mpr ⟨(List.Mem.tail _ (List.Mem.tail _ (List.Mem.tail _ (List.Mem.head _)))), (List.forall_mem_cons.mpr ⟨(List.Mem.head _), (fun q h => absurd h List.not_mem_nil)⟩)⟩)⟩)⟩) ?_
                    exact ih _ a 1 (ka + 1) Is3063 Fs3063 JNW_s3063 (by omega) (by omega) kx
                  ·
                    refine d_lift (fun k ws X h => z_aload_n X (x := A 179) (show cdA 227 157 = some (.aload_n 0, 1, 0, 0, 0) from rfl) (List.Mem.tail _ (List.Mem.tail _ (List.Mem.tail _ (List.Mem.head _)))) h) ?_
                    refine d_liftS (fun k s X h => s_getR X 179 (show cdA 227 158 = some (.getfield 32, 3, 12, 21, 0) from rfl) (by decide) rfl rfl h) ?_
                    refine d_lift (fun k ws X h => z_const X (show cdA 227 161 = some (.iconst 3, 1, 0, 0, 0) from rfl) h) ?_
                    refine d_lift (fun k ws X h => w_dup2_11 X.1 (ax_d X (show cdA 227 162 = some (.dup2, 1, 0, 0, 0) from rfl)) rfl rfl h) ?_
                    refine d_ald 184 (show cdA 227 163 = some (.iaload, 1, 0, 0, 0) from rfl) (by decide) rfl (by omega) (show 3 < 7 by omega) (by decide) (hta3001 161 (by decide) _ (show (3 : Int).toNat < 7 by omega)) ?_
                    have b3066 : ((-2147483648) : Int) ≤ iC s3060 161 (3 : Int).toNat ∧ iC s3060 161 (3 : Int).toNat ≤ 2147483647 := Is3060.2 161 _ (show (3 : Int).toNat < 7 by omega)
                    refine d_lift (fun k ws X h => z_aload_n X (x := A 179) (show cdA 227 164 = some (.aload_n 0, 1, 0, 0, 0) from rfl) (List.Mem.tail _ (List.Mem.tail _ (List.Mem.tail _ (List.Mem.head _)))) h) ?_
                    refine d_liftS (fun k s X h => s_getR X 179 (show cdA 227 165 = some (.getfield 61, 3, 12, 32, 0) from rfl) (by decide) rfl rfl h) ?_
                    refine d_lift (fun k ws X h => z_load_n X (x := a) (show cdA 227 168 = some (.iload_n 1, 1, 0, 0, 0) from rfl) (List.Mem.tail _ (List.Mem.tail _ (List.Mem.tail _ (List.Mem.tail _ (List.Mem.head _))))) h) ?_
                    refine d_ald 229 (show cdA 227 169 = some (.iaload, 1, 0, 0, 0) from rfl) (by decide) rfl (by omega) (show a < 12 by omega) (by decide) (Or.inr ((htn _ (show (a : Int).toNat < 12 by omega) (show (((a : Int).toNat : Nat) : Int) < iI s 90 by omega)).2.1)) ?_
                    have b3067 : (0 : Int) ≤ iC s3060 203 (a).toNat ∧ iC s3060 203 (a).toNat ≤ 50 := Is3060.2 203 _ (show (a).toNat < 12 by omega)
                    have q3068 : iC s3060 203 (a).toNat = iC s 203 (a).toNat := fm_c Gs3060 (by decide)
                    refine d_lift (fun k ws X h => z_add X (show cdA 227 170 = some (.iadd, 1, 0, 0, 0) from rfl) h) ?_
                    refine d_any (fun y3069 hy3069 => ?_)
                    refine d_ast 184 (show cdA 227 171 = some (.iastore, 1, 0, 0, 0) from rfl) (by decide) rfl (by omega) (show 3 < 7 by omega) (by decide) (show 161 ∈ _ by decide) (show ((-2147483648) : Int) ≤ y3069 ∧ y3069 ≤ 2147483647 by omega) ⟨by omega, by omega⟩ ?_
                    refine d_mono (T' := TU T 161 7) (fun _ h => h) (fun _ _ h => Or.inr h) ?_
                    obtain ⟨s3070, hs3070⟩ : ∃ x0, x0 = uC s3060 161 (3 : Int).toNat (Int32.ofInt y3069) := ⟨_, rfl⟩
                    rw [← hs3070]
                    have Is3070 : Bd s3070 := by rw [hs3070]; exact bd_C Is3060 (show ((-2147483648) : Int) ≤ y3069 ∧ y3069 ≤ 2147483647 by omega) ⟨by omega, by omega⟩
                    have Fs3070 := fm_C (i := (3 : Int).toNat) (x := Int32.ofInt y3069) Gs3060 (show 161 ∈ _ by decide)
                    rw [← hs3070] at Fs3070
                    have fs3070 : Fm [] [161] s3060 s3070 := by rw [hs3070]; exact fm_C (fm_rf _ _ _) (show 161 ∈ _ by decide)
                    have JNW_s3070 : NW s3070 := NW_fm fs3070 (by decide) JNW_s3060
                    refine d_lift (fun k ws X h => z_load_n X (x := a) (show cdA 227 172 = some (.iload_n 1, 1, 0, 0, 0) from rfl) (List.Mem.tail _ (List.Mem.tail _ (List.Mem.tail _ (List.Mem.tail _ (List.Mem.head _))))) h) ?_
                    refine d_lift (fun k ws X h => z_const X (show cdA 227 173 = some (.iconst 1, 1, 0, 0, 0) from rfl) h) ?_
                    refine d_lift (fun k ws X h => z_add X (show cdA 227 174 = some (.iadd, 1, 0, 0, 0) from rfl) h) ?_
                    refine d_lift (fun k ws X h => z_store X (lv' := [(5, .int (Int32.ofInt (a + 1))), (2, .int (Int32.ofInt 1)), (4, .int (Int32.ofInt (iC t (204 + (a : Int).toNat) (ka : Int).toNat))), (0, .ref (A 179)), (1, .int (Int32.ofInt a)), (3, .int (Int32.ofInt ka))]) (show cdA 227 175 = some (.istore 5, 2, 0, 0, 0) from rfl) (by decide) (fun _ h => h) h) ?_
                    refine d_lvs (lv := [(0, .ref (A 179)), (1, .int (Int32.ofInt a)), (2, .int (Int32.ofInt 1)), (3, .int (Int32.ofInt ka)), (4, .int (Int32.ofInt (iC t (204 + (a : Int).toNat) (ka : Int).toNat))), (5, .int (Int32.ofInt (a + 1)))]) (List.forall_mem_cons.mpr ⟨(List.Mem.tail _ (List.Mem.tail _ (List.Mem.tail _ (List.Mem.head _)))), (List.forall_mem_cons.mpr ⟨(List.Mem.tail _ (List.Mem.tail _ (List.Mem.tail _ (List.Mem.tail _ (List.Mem.head _))))), (List.forall_mem_cons.mpr ⟨(List.Mem.tail _ (List.Mem.head _)), (List.forall_mem_cons.mpr ⟨(List.Mem.tail _ (List.Mem.tail _ (List.Mem.tail _ (List.Mem.tail _ (List.Mem.tail _ (List.Mem.head _)))))), (List.forall_mem_cons.mpr ⟨(List.Mem.tail _ (List.Mem.tail _ (List.Mem.head _))), (List.forall_mem_cons.mpr ⟨(List.Mem.head _), (fun q h => absurd h List.not_mem_nil)⟩)⟩)⟩)⟩)⟩)⟩) ?_
                    refine L177 ((12 - (a + 1) : Int)).toNat s3070 a 1 ka (iC t (204 + (a : Int).toNat) (ka : Int).toNat) (a + 1) Is3070 Fs3070 JNW_s3070 (by omega) (by omega) ?_
                    intro s3071 x3072 Is3071 Fs3071 JNW_s3071 hs3071
                    have hta3073 : ∀ a ∈ ([161, 230] : List Nat), ∀ j, j < (bA a).2.2 → (TU T 161 7).2 a j := hta_g hta (by decide)
                    refine d_lift (fun k ws X h => z_inc X (x := ka) (lv' := [(3, .int (Int32.ofInt (ka + 1))), (0, .ref (A 179)), (1, .int (Int32.ofInt a)), (2, .int (Int32.ofInt 1)), (4, .int (Int32.ofInt (iC t (204 + (a : Int).toNat) (ka : Int).toNat))), (5, .int (Int32.ofInt x3072))]) (show cdA 227 278 = some (.iinc 3 1, 3, 0, 0, 0) from rfl) (by decide) (List.Mem.tail _ (List.Mem.tail _ (List.Mem.tail _ (List.Mem.head _)))) (fun _ h => h) h) ?_
                    refine d_lift (fun k ws X h => z_goto X (t := 35) (show cdA 227 281 = some (.goto (-246), 3, 0, 0, 0) from rfl) (by decide) h) ?_
                    refine d_lvs (lv := [(0, .ref (A 179)), (1, .int (Int32.ofInt a)), (2, .int (Int32.ofInt 1)), (3, .int (Int32.ofInt (ka + 1)))]) (List.forall_mem_cons.mpr ⟨(List.Mem.tail _ (List.Mem.head _)), (List.forall_mem_cons.mpr ⟨(List.Mem.tail _ (List.Mem.tail _ (List.Mem.head _))), (List.forall_mem_cons.mpr ⟨(List.Mem.tail _ (List.Mem.tail _ (List.Mem.tail _ (List.Mem.head _)))), (List.forall_mem_cons.mpr ⟨(List.Mem.head _), (fun q h => absurd h List.not_mem_nil)⟩)⟩)⟩)⟩) ?_
                    exact ih _ a 1 (ka + 1) Is3071 Fs3071 JNW_s3071 (by omega) (by omega) kx
        ·
          refine d_lift (fun k ws X h => z_aload_n X (x := A 179) (show cdA 227 59 = some (.aload_n 0, 1, 0, 0, 0) from rfl) (List.Mem.tail _ (List.Mem.head _)) h) ?_
          refine d_liftS (fun k s X h => s_getR X 179 (show cdA 227 60 = some (.getfield 76, 3, 12, 37, 0) from rfl) (by decide) rfl rfl h) ?_
          refine d_lift (fun k ws X h => z_load X (x := (iC t (204 + (a : Int).toNat) (ka : Int).toNat)) (show cdA 227 63 = some (.iload 4, 2, 0, 0, 0) from rfl) (List.Mem.head _) h) ?_
          refine d_zald 258 (show cdA 227 65 = some (.baload, 1, 0, 0, 0) from rfl) (by decide) rfl (by omega) (show (iC t (204 + (a : Int).toNat) (ka : Int).toNat) < 128 by omega) (by decide) (hta3001 230 (by decide) _ (show ((iC t (204 + (a : Int).toNat) (ka : Int).toNat)).toNat < 128 by omega)) ?_
          have b3074 : (0 : Int) ≤ iC t 230 ((iC t (204 + (a : Int).toNat) (ka : Int).toNat)).toNat ∧ iC t 230 ((iC t (204 + (a : Int).toNat) (ka : Int).toNat)).toNat ≤ 1 := I.2 230 _ (show ((iC t (204 + (a : Int).toNat) (ka : Int).toNat)).toNat < 128 by omega)
          have q3075 : iC t 230 ((iC t (204 + (a : Int).toNat) (ka : Int).toNat)).toNat = iC s 230 ((iC t (204 + (a : Int).toNat) (ka : Int).toNat)).toNat := fm_c F (by decide)
          refine d_br (by omega) (by omega) (fun k ws X h1 h2 => z_if_eq X (t := 73) (show cdA 227 66 = some (.ifCond .eq 7, 3, 0, 0, 0) from rfl) (by decide) ⟨by omega, by omega⟩ h1 h2) (fun g3076 => ?_) (fun g3076 => ?_)
          ·
            refine d_lift (fun k ws X h => z_const X (show cdA 227 73 = some (.iconst 0, 1, 0, 0, 0) from rfl) h) ?_
            refine d_lift (fun k ws X h => z_store_n X (lv' := [(2, .int (Int32.ofInt 0)), (4, .int (Int32.ofInt (iC t (204 + (a : Int).toNat) (ka : Int).toNat))), (0, .ref (A 179)), (1, .int (Int32.ofInt a)), (3, .int (Int32.ofInt ka))]) (show cdA 227 74 = some (.istore_n 2, 1, 0, 0, 0) from rfl) (by decide) (fun _ h => h) h) ?_
            refine d_lift (fun k ws X h => z_load_n X (x := ka) (show cdA 227 75 = some (.iload_n 3, 1, 0, 0, 0) from rfl) (List.Mem.tail _ (List.Mem.tail _ (List.Mem.tail _ (List.Mem.tail _ (List.Mem.head _))))) h) ?_
            refine d_br (by omega) (by omega) (fun k ws X h1 h2 => z_if_le X (t := 172) (show cdA 227 76 = some (.ifCond .le 96, 3, 5, 0, 0) from rfl) (by decide) ⟨by omega, by omega⟩ h1 h2) (fun g3077 => ?_) (fun g3077 => ?_)
            ·
              refine d_lift (fun k ws X h => z_load_n X (x := a) (show cdA 227 172 = some (.iload_n 1, 1, 0, 0, 0) from rfl) (List.Mem.tail _ (List.Mem.tail _ (List.Mem.tail _ (List.Mem.head _)))) h) ?_
              refine d_lift (fun k ws X h => z_const X (show cdA 227 173 = some (.iconst 1, 1, 0, 0, 0) from rfl) h) ?_
              refine d_lift (fun k ws X h => z_add X (show cdA 227 174 = some (.iadd, 1, 0, 0, 0) from rfl) h) ?_
              refine d_lift (fun k ws X h => z_store X (lv' := [(5, .int (Int32.ofInt (a + 1))), (2, .int (Int32.ofInt 0)), (4, .int (Int32.ofInt (iC t (204 + (a : Int).toNat) (ka : Int).toNat))), (0, .ref (A 179)), (1, .int (Int32.ofInt a)), (3, .int (Int32.ofInt ka))]) (show cdA 227 175 = some (.istore 5, 2, 0, 0, 0) from rfl) (by decide) (fun _ h => h) h) ?_
              refine d_lvs (lv := [(0, .ref (A 179)), (1, .int (Int32.ofInt a)), (2, .int (Int32.ofInt 0)), (3, .int (Int32.ofInt ka)), (4, .int (Int32.ofInt (iC t (204 + (a : Int).toNat) (ka : Int).toNat))), (5, .int (Int32.ofInt (a + 1)))]) (List.forall_mem_cons.mpr ⟨(List.Mem.tail _ (List.Mem.tail _ (List.Mem.tail _ (List.Mem.head _)))), (List.forall_mem_cons.mpr ⟨(List.Mem.tail _ (List.Mem.tail _ (List.Mem.tail _ (List.Mem.tail _ (List.Mem.head _))))), (List.forall_mem_cons.mpr ⟨(List.Mem.tail _ (List.Mem.head _)), (List.forall_mem_cons.mpr ⟨(List.Mem.tail _ (List.Mem.tail _ (List.Mem.tail _ (List.Mem.tail _ (List.Mem.tail _ (List.Mem.head _)))))), (List.forall_mem_cons.mpr ⟨(List.Mem.tail _ (List.Mem.tail _ (List.Mem.head _))), (List.forall_mem_cons.mpr ⟨(List.Mem.head _), (fun q h => absurd h List.not_mem_nil)⟩)⟩)⟩)⟩)⟩)⟩) ?_
              refine L177 ((12 - (a + 1) : Int)).toNat t a 0 ka (iC t (204 + (a : Int).toNat) (ka : Int).toNat) (a + 1) I F jjNW (by omega) (by omega) ?_
              intro s3078 x3079 Is3078 Fs3078 JNW_s3078 hs3078
              have hta3080 : ∀ a ∈ ([161, 230] : List Nat), ∀ j, j < (bA a).2.2 → (TU T 161 7).2 a j := hta_g hta (by decide)
              refine d_lift (fun k ws X h => z_inc X (x := ka) (lv' := [(3, .int (Int32.ofInt (ka + 1))), (0, .ref (A 179)), (1, .int (Int32.ofInt a)), (2, .int (Int32.ofInt 0)), (4, .int (Int32.ofInt (iC t (204 + (a : Int).toNat) (ka : Int).toNat))), (5, .int (Int32.ofInt x3079))]) (show cdA 227 278 = some (.iinc 3 1, 3, 0, 0, 0) from rfl) (by decide) (List.Mem.tail _ (List.Mem.tail _ (List.Mem.tail _ (List.Mem.head _)))) (fun _ h => h) h) ?_
              refine d_lift (fun k ws X h => z_goto X (t := 35) (show cdA 227 281 = some (.goto (-246), 3, 0, 0, 0) from rfl) (by decide) h) ?_
              refine d_lvs (lv := [(0, .ref (A 179)), (1, .int (Int32.ofInt a)), (2, .int (Int32.ofInt 0)), (3, .int (Int32.ofInt (ka + 1)))]) (List.forall_mem_cons.mpr ⟨(List.Mem.tail _ (List.Mem.head _)), (List.forall_mem_cons.mpr ⟨(List.Mem.tail _ (List.Mem.tail _ (List.Mem.head _))), (List.forall_mem_cons.mpr ⟨(List.Mem.tail _ (List.Mem.tail _ (List.Mem.tail _ (List.Mem.head _)))), (List.forall_mem_cons.mpr ⟨(List.Mem.head _), (fun q h => absurd h List.not_mem_nil)⟩)⟩)⟩)⟩) ?_
              exact ih _ a 0 (ka + 1) Is3078 Fs3078 JNW_s3078 (by omega) (by omega) kx
            ·
              refine d_lift (fun k ws X h => z_aload_n X (x := A 179) (show cdA 227 79 = some (.aload_n 0, 1, 0, 0, 0) from rfl) (List.Mem.tail _ (List.Mem.tail _ (List.Mem.head _))) h) ?_
              refine d_liftS (fun k s X h => s_getR X 179 (show cdA 227 80 = some (.getfield 76, 3, 12, 37, 0) from rfl) (by decide) rfl rfl h) ?_
              refine d_lift (fun k ws X h => z_aload_n X (x := A 179) (show cdA 227 83 = some (.aload_n 0, 1, 0, 0, 0) from rfl) (List.Mem.tail _ (List.Mem.tail _ (List.Mem.head _))) h) ?_
              refine d_liftS (fun k s X h => s_getR X 179 (show cdA 227 84 = some (.getfield 64, 3, 12, 33, 0) from rfl) (by decide) rfl rfl h) ?_
              refine d_lift (fun k ws X h => z_load_n X (x := a) (show cdA 227 87 = some (.iload_n 1, 1, 0, 0, 0) from rfl) (List.Mem.tail _ (List.Mem.tail _ (List.Mem.tail _ (List.Mem.head _)))) h) ?_
              refine d_liftS (fun k s X h => z_aald X rw_230 (show cdA 227 88 = some (.aaload, 1, 0, 0, 0) from rfl) (by omega) (show a < 12 by omega) (by decide) h) ?_
              refine d_lift (fun k ws X h => z_load_n X (x := ka) (show cdA 227 89 = some (.iload_n 3, 1, 0, 0, 0) from rfl) (List.Mem.tail _ (List.Mem.tail _ (List.Mem.tail _ (List.Mem.tail _ (List.Mem.head _))))) h) ?_
              refine d_lift (fun k ws X h => z_const X (show cdA 227 90 = some (.iconst 1, 1, 0, 0, 0) from rfl) h) ?_
              refine d_lift (fun k ws X h => z_sub X (show cdA 227 91 = some (.isub, 1, 0, 0, 0) from rfl) h) ?_
              refine d_ald2 rw_230 (show cdA 227 92 = some (.iaload, 1, 0, 0, 0) from rfl) (show (a : Int).toNat < 12 by omega) (by omega) (show (ka - 1) < 24 by omega) (by decide) (Or.inr ((htn _ (show (a : Int).toNat < 12 by omega) (show (((a : Int).toNat : Nat) : Int) < iI s 90 by omega)).2.2.2 _ (show ((((ka - 1) : Int).toNat : Nat) : Int) < iC s 202 (a : Int).toNat by omega))) ?_
              have b3081 : (0 : Int) ≤ (iC t (204 + (a : Int).toNat) ((ka - 1) : Int).toNat) ∧ (iC t (204 + (a : Int).toNat) ((ka - 1) : Int).toNat) ≤ 127 := rw_bd rw_230 I (show (a : Int).toNat < 12 by omega) (show ((ka - 1) : Int).toNat < 24 by omega)
              refine d_zald 258 (show cdA 227 93 = some (.baload, 1, 0, 0, 0) from rfl) (by decide) rfl (by omega) (show (iC t (204 + (a : Int).toNat) ((ka - 1) : Int).toNat) < 128 by omega) (by decide) (hta3001 230 (by decide) _ (show ((iC t (204 + (a : Int).toNat) ((ka - 1) : Int).toNat)).toNat < 128 by omega)) ?_
              have b3082 : (0 : Int) ≤ iC t 230 ((iC t (204 + (a : Int).toNat) ((ka - 1) : Int).toNat)).toNat ∧ iC t 230 ((iC t (204 + (a : Int).toNat) ((ka - 1) : Int).toNat)).toNat ≤ 1 := I.2 230 _ (show ((iC t (204 + (a : Int).toNat) ((ka - 1) : Int).toNat)).toNat < 128 by omega)
              have q3083 : iC t 230 ((iC t (204 + (a : Int).toNat) ((ka - 1) : Int).toNat)).toNat = iC s 230 ((iC t (204 + (a : Int).toNat) ((ka - 1) : Int).toNat)).toNat := fm_c F (by decide)
              refine d_lift (fun k ws X h => z_store X (lv' := [(5, .int (Int32.ofInt (iC t 230 ((iC t (204 + (a : Int).toNat) ((ka - 1) : Int).toNat)).toNat))), (2, .int (Int32.ofInt 0)), (4, .int (Int32.ofInt (iC t (204 + (a : Int).toNat) (ka : Int).toNat))), (0, .ref (A 179)), (1, .int (Int32.ofInt a)), (3, .int (Int32.ofInt ka))]) (show cdA 227 94 = some (.istore 5, 2, 0, 0, 0) from rfl) (by decide) (fun _ h => h) h) ?_
              refine d_lift (fun k ws X h => z_load X (x := (iC t 230 ((iC t (204 + (a : Int).toNat) ((ka - 1) : Int).toNat)).toNat)) (show cdA 227 96 = some (.iload 5, 2, 0, 0, 0) from rfl) (List.Mem.head _) h) ?_
              refine d_lift (fun k ws X h => z_aload_n X (x := A 179) (show cdA 227 98 = some (.aload_n 0, 1, 0, 0, 0) from rfl) (List.Mem.tail _ (List.Mem.tail _ (List.Mem.tail _ (List.Mem.head _)))) h) ?_
              refine d_liftS (fun k s X h => s_getR X 179 (show cdA 227 99 = some (.getfield 76, 3, 12, 37, 0) from rfl) (by decide) rfl rfl h) ?_
              refine d_lift (fun k ws X h => z_load X (x := (iC t (204 + (a : Int).toNat) (ka : Int).toNat)) (show cdA 227 102 = some (.iload 4, 2, 0, 0, 0) from rfl) (List.Mem.tail _ (List.Mem.tail _ (List.Mem.head _))) h) ?_
              refine d_zald 258 (show cdA 227 104 = some (.baload, 1, 0, 0, 0) from rfl) (by decide) rfl (by omega) (show (iC t (204 + (a : Int).toNat) (ka : Int).toNat) < 128 by omega) (by decide) (hta3001 230 (by decide) _ (show ((iC t (204 + (a : Int).toNat) (ka : Int).toNat)).toNat < 128 by omega)) ?_
              have b3084 : (0 : Int) ≤ iC t 230 ((iC t (204 + (a : Int).toNat) (ka : Int).toNat)).toNat ∧ iC t 230 ((iC t (204 + (a : Int).toNat) (ka : Int).toNat)).toNat ≤ 1 := I.2 230 _ (show ((iC t (204 + (a : Int).toNat) (ka : Int).toNat)).toNat < 128 by omega)
              have q3085 : iC t 230 ((iC t (204 + (a : Int).toNat) (ka : Int).toNat)).toNat = iC s 230 ((iC t (204 + (a : Int).toNat) (ka : Int).toNat)).toNat := fm_c F (by decide)
              refine d_br (by omega) (by omega) (fun k ws X h1 h2 => z_icmp_eq X (t := 123) (show cdA 227 105 = some (.if_icmp .eq 18, 3, 0, 0, 0) from rfl) (by decide) ⟨by omega, by omega⟩ ⟨by omega, by omega⟩ h1 h2) (fun g3086 => ?_) (fun g3086 => ?_)
              ·
                refine d_lift (fun k ws X h => z_load X (x := (iC t 230 ((iC t (204 + (a : Int).toNat) ((ka - 1) : Int).toNat)).toNat)) (show cdA 227 123 = some (.iload 5, 2, 0, 0, 0) from rfl) (List.Mem.head _) h) ?_
                refine d_br (by omega) (by omega) (fun k ws X h1 h2 => z_if_eq X (t := 172) (show cdA 227 125 = some (.ifCond .eq 47, 3, 0, 0, 0) from rfl) (by decide) ⟨by omega, by omega⟩ h1 h2) (fun g3087 => ?_) (fun g3087 => ?_)
                ·
                  refine d_lift (fun k ws X h => z_load_n X (x := a) (show cdA 227 172 = some (.iload_n 1, 1, 0, 0, 0) from rfl) (List.Mem.tail _ (List.Mem.tail _ (List.Mem.tail _ (List.Mem.tail _ (List.Mem.head _))))) h) ?_
                  refine d_lift (fun k ws X h => z_const X (show cdA 227 173 = some (.iconst 1, 1, 0, 0, 0) from rfl) h) ?_
                  refine d_lift (fun k ws X h => z_add X (show cdA 227 174 = some (.iadd, 1, 0, 0, 0) from rfl) h) ?_
                  refine d_lift (fun k ws X h => z_store X (lv' := [(5, .int (Int32.ofInt (a + 1))), (2, .int (Int32.ofInt 0)), (4, .int (Int32.ofInt (iC t (204 + (a : Int).toNat) (ka : Int).toNat))), (0, .ref (A 179)), (1, .int (Int32.ofInt a)), (3, .int (Int32.ofInt ka))]) (show cdA 227 175 = some (.istore 5, 2, 0, 0, 0) from rfl) (by decide) (fun _ h => h) h) ?_
                  refine d_lvs (lv := [(0, .ref (A 179)), (1, .int (Int32.ofInt a)), (2, .int (Int32.ofInt 0)), (3, .int (Int32.ofInt ka)), (4, .int (Int32.ofInt (iC t (204 + (a : Int).toNat) (ka : Int).toNat))), (5, .int (Int32.ofInt (a + 1)))]) (List.forall_mem_cons.mpr ⟨(List.Mem.tail _ (List.Mem.tail _ (List.Mem.tail _ (List.Mem.head _)))), (List.forall_mem_cons.mpr ⟨(List.Mem.tail _ (List.Mem.tail _ (List.Mem.tail _ (List.Mem.tail _ (List.Mem.head _))))), (List.forall_mem_cons.mpr ⟨(List.Mem.tail _ (List.Mem.head _)), (List.forall_mem_cons.mpr ⟨(List.Mem.tail _ (List.Mem.tail _ (List.Mem.tail _ (List.Mem.tail _ (List.Mem.tail _ (List.Mem.head _)))))), (List.forall_mem_cons.mpr ⟨(List.Mem.tail _ (List.Mem.tail _ (List.Mem.head _))), (List.forall_mem_cons.mpr ⟨(List.Mem.head _), (fun q h => absurd h List.not_mem_nil)⟩)⟩)⟩)⟩)⟩)⟩) ?_
                  refine L177 ((12 - (a + 1) : Int)).toNat t a 0 ka (iC t (204 + (a : Int).toNat) (ka : Int).toNat) (a + 1) I F jjNW (by omega) (by omega) ?_
                  intro s3088 x3089 Is3088 Fs3088 JNW_s3088 hs3088
                  have hta3090 : ∀ a ∈ ([161, 230] : List Nat), ∀ j, j < (bA a).2.2 → (TU T 161 7).2 a j := hta_g hta (by decide)
                  refine d_lift (fun k ws X h => z_inc X (x := ka) (lv' := [(3, .int (Int32.ofInt (ka + 1))), (0, .ref (A 179)), (1, .int (Int32.ofInt a)), (2, .int (Int32.ofInt 0)), (4, .int (Int32.ofInt (iC t (204 + (a : Int).toNat) (ka : Int).toNat))), (5, .int (Int32.ofInt x3089))]) (show cdA 227 278 = some (.iinc 3 1, 3, 0, 0, 0) from rfl) (by decide) (List.Mem.tail _ (List.Mem.tail _ (List.Mem.tail _ (List.Mem.head _)))) (fun _ h => h) h) ?_
                  refine d_lift (fun k ws X h => z_goto X (t := 35) (show cdA 227 281 = some (.goto (-246), 3, 0, 0, 0) from rfl) (by decide) h) ?_
                  refine d_lvs (lv := [(0, .ref (A 179)), (1, .int (Int32.ofInt a)), (2, .int (Int32.ofInt 0)), (3, .int (Int32.ofInt (ka + 1)))]) (List.forall_mem_cons.mpr ⟨(List.Mem.tail _ (List.Mem.head _)), (List.forall_mem_cons.mpr ⟨(List.Mem.tail _ (List.Mem.tail _ (List.Mem.head _))), (List.forall_mem_cons.mpr ⟨(List.Mem.tail _ (List.Mem.tail _ (List.Mem.tail _ (List.Mem.head _)))), (List.forall_mem_cons.mpr ⟨(List.Mem.head _), (fun q h => absurd h List.not_mem_nil)⟩)⟩)⟩)⟩) ?_
                  exact ih _ a 0 (ka + 1) Is3088 Fs3088 JNW_s3088 (by omega) (by omega) kx
                ·
                  refine d_lift (fun k ws X h => z_aload_n X (x := A 179) (show cdA 227 128 = some (.aload_n 0, 1, 0, 0, 0) from rfl) (List.Mem.tail _ (List.Mem.tail _ (List.Mem.tail _ (List.Mem.head _)))) h) ?_
                  refine d_liftS (fun k s X h => s_getR X 179 (show cdA 227 129 = some (.getfield 76, 3, 12, 37, 0) from rfl) (by decide) rfl rfl h) ?_
                  refine d_lift (fun k ws X h => z_load X (x := (iC t (204 + (a : Int).toNat) (ka : Int).toNat)) (show cdA 227 132 = some (.iload 4, 2, 0, 0, 0) from rfl) (List.Mem.tail _ (List.Mem.tail _ (List.Mem.head _))) h) ?_
                  refine d_zald 258 (show cdA 227 134 = some (.baload, 1, 0, 0, 0) from rfl) (by decide) rfl (by omega) (show (iC t (204 + (a : Int).toNat) (ka : Int).toNat) < 128 by omega) (by decide) (hta3001 230 (by decide) _ (show ((iC t (204 + (a : Int).toNat) (ka : Int).toNat)).toNat < 128 by omega)) ?_
                  have b3091 : (0 : Int) ≤ iC t 230 ((iC t (204 + (a : Int).toNat) (ka : Int).toNat)).toNat ∧ iC t 230 ((iC t (204 + (a : Int).toNat) (ka : Int).toNat)).toNat ≤ 1 := I.2 230 _ (show ((iC t (204 + (a : Int).toNat) (ka : Int).toNat)).toNat < 128 by omega)
                  have q3092 : iC t 230 ((iC t (204 + (a : Int).toNat) (ka : Int).toNat)).toNat = iC s 230 ((iC t (204 + (a : Int).toNat) (ka : Int).toNat)).toNat := fm_c F (by decide)
                  refine d_br (by omega) (by omega) (fun k ws X h1 h2 => z_if_eq X (t := 172) (show cdA 227 135 = some (.ifCond .eq 37, 3, 0, 0, 0) from rfl) (by decide) ⟨by omega, by omega⟩ h1 h2) (fun g3093 => ?_) (fun g3093 => ?_)
                  ·
                    refine d_lift (fun k ws X h => z_load_n X (x := a) (show cdA 227 172 = some (.iload_n 1, 1, 0, 0, 0) from rfl) (List.Mem.tail _ (List.Mem.tail _ (List.Mem.tail _ (List.Mem.tail _ (List.Mem.head _))))) h) ?_
                    refine d_lift (fun k ws X h => z_const X (show cdA 227 173 = some (.iconst 1, 1, 0, 0, 0) from rfl) h) ?_
                    refine d_lift (fun k ws X h => z_add X (show cdA 227 174 = some (.iadd, 1, 0, 0, 0) from rfl) h) ?_
                    refine d_lift (fun k ws X h => z_store X (lv' := [(5, .int (Int32.ofInt (a + 1))), (2, .int (Int32.ofInt 0)), (4, .int (Int32.ofInt (iC t (204 + (a : Int).toNat) (ka : Int).toNat))), (0, .ref (A 179)), (1, .int (Int32.ofInt a)), (3, .int (Int32.ofInt ka))]) (show cdA 227 175 = some (.istore 5, 2, 0, 0, 0) from rfl) (by decide) (fun _ h => h) h) ?_
                    refine d_lvs (lv := [(0, .ref (A 179)), (1, .int (Int32.ofInt a)), (2, .int (Int32.ofInt 0)), (3, .int (Int32.ofInt ka)), (4, .int (Int32.ofInt (iC t (204 + (a : Int).toNat) (ka : Int).toNat))), (5, .int (Int32.ofInt (a + 1)))]) (List.forall_mem_cons.mpr ⟨(List.Mem.tail _ (List.Mem.tail _ (List.Mem.tail _ (List.Mem.head _)))), (List.forall_mem_cons.mpr ⟨(List.Mem.tail _ (List.Mem.tail _ (List.Mem.tail _ (List.Mem.tail _ (List.Mem.head _))))), (List.forall_mem_cons.mpr ⟨(List.Mem.tail _ (List.Mem.head _)), (List.forall_mem_cons.mpr ⟨(List.Mem.tail _ (List.Mem.tail _ (List.Mem.tail _ (List.Mem.tail _ (List.Mem.tail _ (List.Mem.head _)))))), (List.forall_mem_cons.mpr ⟨(List.Mem.tail _ (List.Mem.tail _ (List.Mem.head _))), (List.forall_mem_cons.mpr ⟨(List.Mem.head _), (fun q h => absurd h List.not_mem_nil)⟩)⟩)⟩)⟩)⟩)⟩) ?_
                    refine L177 ((12 - (a + 1) : Int)).toNat t a 0 ka (iC t (204 + (a : Int).toNat) (ka : Int).toNat) (a + 1) I F jjNW (by omega) (by omega) ?_
                    intro s3094 x3095 Is3094 Fs3094 JNW_s3094 hs3094
                    have hta3096 : ∀ a ∈ ([161, 230] : List Nat), ∀ j, j < (bA a).2.2 → (TU T 161 7).2 a j := hta_g hta (by decide)
                    refine d_lift (fun k ws X h => z_inc X (x := ka) (lv' := [(3, .int (Int32.ofInt (ka + 1))), (0, .ref (A 179)), (1, .int (Int32.ofInt a)), (2, .int (Int32.ofInt 0)), (4, .int (Int32.ofInt (iC t (204 + (a : Int).toNat) (ka : Int).toNat))), (5, .int (Int32.ofInt x3095))]) (show cdA 227 278 = some (.iinc 3 1, 3, 0, 0, 0) from rfl) (by decide) (List.Mem.tail _ (List.Mem.tail _ (List.Mem.tail _ (List.Mem.head _)))) (fun _ h => h) h) ?_
                    refine d_lift (fun k ws X h => z_goto X (t := 35) (show cdA 227 281 = some (.goto (-246), 3, 0, 0, 0) from rfl) (by decide) h) ?_
                    refine d_lvs (lv := [(0, .ref (A 179)), (1, .int (Int32.ofInt a)), (2, .int (Int32.ofInt 0)), (3, .int (Int32.ofInt (ka + 1)))]) (List.forall_mem_cons.mpr ⟨(List.Mem.tail _ (List.Mem.head _)), (List.forall_mem_cons.mpr ⟨(List.Mem.tail _ (List.Mem.tail _ (List.Mem.head _))), (List.forall_mem_cons.mpr ⟨(List.Mem.tail _ (List.Mem.tail _ (List.Mem.tail _ (List.Mem.head _)))), (List.forall_mem_cons.mpr ⟨(List.Mem.head _), (fun q h => absurd h List.not_mem_nil)⟩)⟩)⟩)⟩) ?_
                    exact ih _ a 0 (ka + 1) Is3094 Fs3094 JNW_s3094 (by omega) (by omega) kx
                  ·
                    refine d_lift (fun k ws X h => z_aload_n X (x := A 179) (show cdA 227 138 = some (.aload_n 0, 1, 0, 0, 0) from rfl) (List.Mem.tail _ (List.Mem.tail _ (List.Mem.tail _ (List.Mem.head _)))) h) ?_
                    refine d_liftS (fun k s X h => s_getR X 179 (show cdA 227 139 = some (.getfield 64, 3, 12, 33, 0) from rfl) (by decide) rfl rfl h) ?_
                    refine d_lift (fun k ws X h => z_load_n X (x := a) (show cdA 227 142 = some (.iload_n 1, 1, 0, 0, 0) from rfl) (List.Mem.tail _ (List.Mem.tail _ (List.Mem.tail _ (List.Mem.tail _ (List.Mem.head _))))) h) ?_
                    refine d_liftS (fun k s X h => z_aald X rw_230 (show cdA 227 143 = some (.aaload, 1, 0, 0, 0) from rfl) (by omega) (show a < 12 by omega) (by decide) h) ?_
                    refine d_lift (fun k ws X h => z_load_n X (x := ka) (show cdA 227 144 = some (.iload_n 3, 1, 0, 0, 0) from rfl) (List.Mem.tail _ (List.Mem.tail _ (List.Mem.tail _ (List.Mem.tail _ (List.Mem.tail _ (List.Mem.head _)))))) h) ?_
                    refine d_lift (fun k ws X h => z_const X (show cdA 227 145 = some (.iconst 1, 1, 0, 0, 0) from rfl) h) ?_
                    refine d_lift (fun k ws X h => z_sub X (show cdA 227 146 = some (.isub, 1, 0, 0, 0) from rfl) h) ?_
                    refine d_ald2 rw_230 (show cdA 227 147 = some (.iaload, 1, 0, 0, 0) from rfl) (show (a : Int).toNat < 12 by omega) (by omega) (show (ka - 1) < 24 by omega) (by decide) (Or.inr ((htn _ (show (a : Int).toNat < 12 by omega) (show (((a : Int).toNat : Nat) : Int) < iI s 90 by omega)).2.2.2 _ (show ((((ka - 1) : Int).toNat : Nat) : Int) < iC s 202 (a : Int).toNat by omega))) ?_
                    have b3097 : (0 : Int) ≤ (iC t (204 + (a : Int).toNat) ((ka - 1) : Int).toNat) ∧ (iC t (204 + (a : Int).toNat) ((ka - 1) : Int).toNat) ≤ 127 := rw_bd rw_230 I (show (a : Int).toNat < 12 by omega) (show ((ka - 1) : Int).toNat < 24 by omega)
                    refine d_lift (fun k ws X h => z_load X (x := (iC t (204 + (a : Int).toNat) (ka : Int).toNat)) (show cdA 227 148 = some (.iload 4, 2, 0, 0, 0) from rfl) (List.Mem.tail _ (List.Mem.tail _ (List.Mem.head _))) h) ?_
                    refine d_callT (As := [.int (Int32.ofInt (iC t (204 + (a : Int).toNat) ((ka - 1) : Int).toNat)), .int (Int32.ofInt (iC t (204 + (a : Int).toNat) (ka : Int).toNat))]) (st := []) (show cdA 227 150 = some (.invokestatic 312, 3, 225, 1, 0) from rfl) rfl (d_stepOf (T := TU T 161 7) G I (by omega) (by omega) (fun q h => hti q ((by decide : ∀ q ∈ ([] : List Nat), q ∈ ([90, 89] : List Nat)) q h)) (fun a h => hta3001 a ((by decide : ∀ q ∈ ([] : List Nat), q ∈ ([161, 230] : List Nat)) a h))) ⟨rfl, rfl⟩ ⟨(show 6 + 1 ≤ 8 by omega), (show 8 + (mNL (miB 225) + 11) + 100 ≤ 143 by simp only [show mNL (miB 225) = 2 from rfl]; omega)⟩ (Nat.le_of_ble_eq_true rfl) (by decide) (by decide) (fun ee s3098 hq => ?_) (fun vv s3098 hq => ?_)
                    · obtain ⟨Is3098, Fs3098, e3099, hv, hrs3098, hps3098⟩ := hq; cases hv
                    obtain ⟨Is3098, Fs3098, e3099, hv, hrs3098, hps3098⟩ := hq
                    cases hv
                    have Gs3098 := fm_ts F Fs3098 (by decide) (by decide)
                    have JNW_s3098 : NW s3098 := NW_fm Fs3098 (by decide) jjNW
                    show DS l s0 D A dT 227 (rmN 227) [] [161] (TU T 161 7) Q (TU T 161 7) 153 [(5, .int (Int32.ofInt (iC t 230 ((iC t (204 + (a : Int).toNat) ((ka - 1) : Int).toNat)).toNat))), (2, .int (Int32.ofInt 0)), (4, .int (Int32.ofInt (iC t (204 + (a : Int).toNat) (ka : Int).toNat))), (0, .ref (A 179)), (1, .int (Int32.ofInt a)), (3, .int (Int32.ofInt ka))] [.int (Int32.ofInt e3099)] s3098
                    refine d_lift (fun k ws X h => z_const X (show cdA 227 153 = some (.iconst 3, 1, 0, 0, 0) from rfl) h) ?_
                    refine d_br (by omega) (by omega) (fun k ws X h1 h2 => z_icmp_le X (t := 172) (show cdA 227 154 = some (.if_icmp .le 18, 3, 5, 0, 0) from rfl) (by decide) ⟨by omega, by omega⟩ ⟨by omega, by omega⟩ h1 h2) (fun g3100 => ?_) (fun g3100 => ?_)
                    ·
                      refine d_lift (fun k ws X h => z_load_n X (x := a) (show cdA 227 172 = some (.iload_n 1, 1, 0, 0, 0) from rfl) (List.Mem.tail _ (List.Mem.tail _ (List.Mem.tail _ (List.Mem.tail _ (List.Mem.head _))))) h) ?_
                      refine d_lift (fun k ws X h => z_const X (show cdA 227 173 = some (.iconst 1, 1, 0, 0, 0) from rfl) h) ?_
                      refine d_lift (fun k ws X h => z_add X (show cdA 227 174 = some (.iadd, 1, 0, 0, 0) from rfl) h) ?_
                      refine d_lift (fun k ws X h => z_store X (lv' := [(5, .int (Int32.ofInt (a + 1))), (2, .int (Int32.ofInt 0)), (4, .int (Int32.ofInt (iC t (204 + (a : Int).toNat) (ka : Int).toNat))), (0, .ref (A 179)), (1, .int (Int32.ofInt a)), (3, .int (Int32.ofInt ka))]) (show cdA 227 175 = some (.istore 5, 2, 0, 0, 0) from rfl) (by decide) (fun _ h => h) h) ?_
                      refine d_lvs (lv := [(0, .ref (A 179)), (1, .int (Int32.ofInt a)), (2, .int (Int32.ofInt 0)), (3, .int (Int32.ofInt ka)), (4, .int (Int32.ofInt (iC t (204 + (a : Int).toNat) (ka : Int).toNat))), (5, .int (Int32.ofInt (a + 1)))]) (List.forall_mem_cons.mpr ⟨(List.Mem.tail _ (List.Mem.tail _ (List.Mem.tail _ (List.Mem.head _)))), (List.forall_mem_cons.mpr ⟨(List.Mem.tail _ (List.Mem.tail _ (List.Mem.tail _ (List.Mem.tail _ (List.Mem.head _))))), (List.forall_mem_cons.mpr ⟨(List.Mem.tail _ (List.Mem.head _)), (List.forall_mem_cons.mpr ⟨(List.Mem.tail _ (List.Mem.tail _ (List.Mem.tail _ (List.Mem.tail _ (List.Mem.tail _ (List.Mem.head _)))))), (List.forall_mem_cons.mpr ⟨(List.Mem.tail _ (List.Mem.tail _ (List.Mem.head _))), (List.forall_mem_cons.mpr ⟨(List.Mem.head _), (fun q h => absurd h List.not_mem_nil)⟩)⟩)⟩)⟩)⟩)⟩) ?_
                      refine L177 ((12 - (a + 1) : Int)).toNat s3098 a 0 ka (iC t (204 + (a : Int).toNat) (ka : Int).toNat) (a + 1) Is3098 Gs3098 JNW_s3098 (by omega) (by omega) ?_
                      intro s3101 x3102 Is3101 Fs3101 JNW_s3101 hs3101
                      have hta3103 : ∀ a ∈ ([161, 230] : List Nat), ∀ j, j < (bA a).2.2 → (TU T 161 7).2 a j := hta_g hta (by decide)
                      refine d_lift (fun k ws X h => z_inc X (x := ka) (lv' := [(3, .int (Int32.ofInt (ka + 1))), (0, .ref (A 179)), (1, .int (Int32.ofInt a)), (2, .int (Int32.ofInt 0)), (4, .int (Int32.ofInt (iC t (204 + (a : Int).toNat) (ka : Int).toNat))), (5, .int (Int32.ofInt x3102))]) (show cdA 227 278 = some (.iinc 3 1, 3, 0, 0, 0) from rfl) (by decide) (List.Mem.tail _ (List.Mem.tail _ (List.Mem.tail _ (List.Mem.head _)))) (fun _ h => h) h) ?_
                      refine d_lift (fun k ws X h => z_goto X (t := 35) (show cdA 227 281 = some (.goto (-246), 3, 0, 0, 0) from rfl) (by decide) h) ?_
                      refine d_lvs (lv := [(0, .ref (A 179)), (1, .int (Int32.ofInt a)), (2, .int (Int32.ofInt 0)), (3, .int (Int32.ofInt (ka + 1)))]) (List.forall_mem_cons.mpr ⟨(List.Mem.tail _ (List.Mem.head _)), (List.forall_mem_cons.mpr ⟨(List.Mem.tail _ (List.Mem.tail _ (List.Mem.head _))), (List.forall_mem_cons.mpr ⟨(List.Mem.tail _ (List.Mem.tail _ (List.Mem.tail _ (List.Mem.head _)))), (List.forall_mem_cons.mpr ⟨(List.Mem.head _), (fun q h => absurd h List.not_mem_nil)⟩)⟩)⟩)⟩) ?_
                      exact ih _ a 0 (ka + 1) Is3101 Fs3101 JNW_s3101 (by omega) (by omega) kx
                    ·
                      refine d_lift (fun k ws X h => z_aload_n X (x := A 179) (show cdA 227 157 = some (.aload_n 0, 1, 0, 0, 0) from rfl) (List.Mem.tail _ (List.Mem.tail _ (List.Mem.tail _ (List.Mem.head _)))) h) ?_
                      refine d_liftS (fun k s X h => s_getR X 179 (show cdA 227 158 = some (.getfield 32, 3, 12, 21, 0) from rfl) (by decide) rfl rfl h) ?_
                      refine d_lift (fun k ws X h => z_const X (show cdA 227 161 = some (.iconst 3, 1, 0, 0, 0) from rfl) h) ?_
                      refine d_lift (fun k ws X h => w_dup2_11 X.1 (ax_d X (show cdA 227 162 = some (.dup2, 1, 0, 0, 0) from rfl)) rfl rfl h) ?_
                      refine d_ald 184 (show cdA 227 163 = some (.iaload, 1, 0, 0, 0) from rfl) (by decide) rfl (by omega) (show 3 < 7 by omega) (by decide) (hta3001 161 (by decide) _ (show (3 : Int).toNat < 7 by omega)) ?_
                      have b3104 : ((-2147483648) : Int) ≤ iC s3098 161 (3 : Int).toNat ∧ iC s3098 161 (3 : Int).toNat ≤ 2147483647 := Is3098.2 161 _ (show (3 : Int).toNat < 7 by omega)
                      refine d_lift (fun k ws X h => z_aload_n X (x := A 179) (show cdA 227 164 = some (.aload_n 0, 1, 0, 0, 0) from rfl) (List.Mem.tail _ (List.Mem.tail _ (List.Mem.tail _ (List.Mem.head _)))) h) ?_
                      refine d_liftS (fun k s X h => s_getR X 179 (show cdA 227 165 = some (.getfield 61, 3, 12, 32, 0) from rfl) (by decide) rfl rfl h) ?_
                      refine d_lift (fun k ws X h => z_load_n X (x := a) (show cdA 227 168 = some (.iload_n 1, 1, 0, 0, 0) from rfl) (List.Mem.tail _ (List.Mem.tail _ (List.Mem.tail _ (List.Mem.tail _ (List.Mem.head _))))) h) ?_
                      refine d_ald 229 (show cdA 227 169 = some (.iaload, 1, 0, 0, 0) from rfl) (by decide) rfl (by omega) (show a < 12 by omega) (by decide) (Or.inr ((htn _ (show (a : Int).toNat < 12 by omega) (show (((a : Int).toNat : Nat) : Int) < iI s 90 by omega)).2.1)) ?_
                      have b3105 : (0 : Int) ≤ iC s3098 203 (a).toNat ∧ iC s3098 203 (a).toNat ≤ 50 := Is3098.2 203 _ (show (a).toNat < 12 by omega)
                      have q3106 : iC s3098 203 (a).toNat = iC s 203 (a).toNat := fm_c Gs3098 (by decide)
                      refine d_lift (fun k ws X h => z_add X (show cdA 227 170 = some (.iadd, 1, 0, 0, 0) from rfl) h) ?_
                      refine d_any (fun y3107 hy3107 => ?_)
                      refine d_ast 184 (show cdA 227 171 = some (.iastore, 1, 0, 0, 0) from rfl) (by decide) rfl (by omega) (show 3 < 7 by omega) (by decide) (show 161 ∈ _ by decide) (show ((-2147483648) : Int) ≤ y3107 ∧ y3107 ≤ 2147483647 by omega) ⟨by omega, by omega⟩ ?_
                      refine d_mono (T' := TU T 161 7) (fun _ h => h) (fun _ _ h => Or.inr h) ?_
                      obtain ⟨s3108, hs3108⟩ : ∃ x0, x0 = uC s3098 161 (3 : Int).toNat (Int32.ofInt y3107) := ⟨_, rfl⟩
                      rw [← hs3108]
                      have Is3108 : Bd s3108 := by rw [hs3108]; exact bd_C Is3098 (show ((-2147483648) : Int) ≤ y3107 ∧ y3107 ≤ 2147483647 by omega) ⟨by omega, by omega⟩
                      have Fs3108 := fm_C (i := (3 : Int).toNat) (x := Int32.ofInt y3107) Gs3098 (show 161 ∈ _ by decide)
                      rw [← hs3108] at Fs3108
                      have fs3108 : Fm [] [161] s3098 s3108 := by rw [hs3108]; exact fm_C (fm_rf _ _ _) (show 161 ∈ _ by decide)
                      have JNW_s3108 : NW s3108 := NW_fm fs3108 (by decide) JNW_s3098
                      refine d_lift (fun k ws X h => z_load_n X (x := a) (show cdA 227 172 = some (.iload_n 1, 1, 0, 0, 0) from rfl) (List.Mem.tail _ (List.Mem.tail _ (List.Mem.tail _ (List.Mem.tail _ (List.Mem.head _))))) h) ?_
                      refine d_lift (fun k ws X h => z_const X (show cdA 227 173 = some (.iconst 1, 1, 0, 0, 0) from rfl) h) ?_
                      refine d_lift (fun k ws X h => z_add X (show cdA 227 174 = some (.iadd, 1, 0, 0, 0) from rfl) h) ?_
                      refine d_lift (fun k ws X h => z_store X (lv' := [(5, .int (Int32.ofInt (a + 1))), (2, .int (Int32.ofInt 0)), (4, .int (Int32.ofInt (iC t (204 + (a : Int).toNat) (ka : Int).toNat))), (0, .ref (A 179)), (1, .int (Int32.ofInt a)), (3, .int (Int32.ofInt ka))]) (show cdA 227 175 = some (.istore 5, 2, 0, 0, 0) from rfl) (by decide) (fun _ h => h) h) ?_
                      refine d_lvs (lv := [(0, .ref (A 179)), (1, .int (Int32.ofInt a)), (2, .int (Int32.ofInt 0)), (3, .int (Int32.ofInt ka)), (4, .int (Int32.ofInt (iC t (204 + (a : Int).toNat) (ka : Int).toNat))), (5, .int (Int32.ofInt (a + 1)))]) (List.forall_mem_cons.mpr ⟨(List.Mem.tail _ (List.Mem.tail _ (List.Mem.tail _ (List.Mem.head _)))), (List.forall_mem_cons.mpr ⟨(List.Mem.tail _ (List.Mem.tail _ (List.Mem.tail _ (List.Mem.tail _ (List.Mem.head _))))), (List.forall_mem_cons.mpr ⟨(List.Mem.tail _ (List.Mem.head _)), (List.forall_mem_cons.mpr ⟨(List.Mem.tail _ (List.Mem.tail _ (List.Mem.tail _ (List.Mem.tail _ (List.Mem.tail _ (List.Mem.head _)))))), (List.forall_mem_cons.mpr ⟨(List.Mem.tail _ (List.Mem.tail _ (List.Mem.head _))), (List.forall_mem_cons.mpr ⟨(List.Mem.head _), (fun q h => absurd h List.not_mem_nil)⟩)⟩)⟩)⟩)⟩)⟩) ?_
                      refine L177 ((12 - (a + 1) : Int)).toNat s3108 a 0 ka (iC t (204 + (a : Int).toNat) (ka : Int).toNat) (a + 1) Is3108 Fs3108 JNW_s3108 (by omega) (by omega) ?_
                      intro s3109 x3110 Is3109 Fs3109 JNW_s3109 hs3109
                      have hta3111 : ∀ a ∈ ([161, 230] : List Nat), ∀ j, j < (bA a).2.2 → (TU T 161 7).2 a j := hta_g hta (by decide)
                      refine d_lift (fun k ws X h => z_inc X (x := ka) (lv' := [(3, .int (Int32.ofInt (ka + 1))), (0, .ref (A 179)), (1, .int (Int32.ofInt a)), (2, .int (Int32.ofInt 0)), (4, .int (Int32.ofInt (iC t (204 + (a : Int).toNat) (ka : Int).toNat))), (5, .int (Int32.ofInt x3110))]) (show cdA 227 278 = some (.iinc 3 1, 3, 0, 0, 0) from rfl) (by decide) (List.Mem.tail _ (List.Mem.tail _ (List.Mem.tail _ (List.Mem.head _)))) (fun _ h => h) h) ?_
                      refine d_lift (fun k ws X h => z_goto X (t := 35) (show cdA 227 281 = some (.goto (-246), 3, 0, 0, 0) from rfl) (by decide) h) ?_
                      refine d_lvs (lv := [(0, .ref (A 179)), (1, .int (Int32.ofInt a)), (2, .int (Int32.ofInt 0)), (3, .int (Int32.ofInt (ka + 1)))]) (List.forall_mem_cons.mpr ⟨(List.Mem.tail _ (List.Mem.head _)), (List.forall_mem_cons.mpr ⟨(List.Mem.tail _ (List.Mem.tail _ (List.Mem.head _))), (List.forall_mem_cons.mpr ⟨(List.Mem.tail _ (List.Mem.tail _ (List.Mem.tail _ (List.Mem.head _)))), (List.forall_mem_cons.mpr ⟨(List.Mem.head _), (fun q h => absurd h List.not_mem_nil)⟩)⟩)⟩)⟩) ?_
                      exact ih _ a 0 (ka + 1) Is3109 Fs3109 JNW_s3109 (by omega) (by omega) kx
              ·
                refine d_lift (fun k ws X h => z_aload_n X (x := A 179) (show cdA 227 108 = some (.aload_n 0, 1, 0, 0, 0) from rfl) (List.Mem.tail _ (List.Mem.tail _ (List.Mem.tail _ (List.Mem.head _)))) h) ?_
                refine d_liftS (fun k s X h => s_getR X 179 (show cdA 227 109 = some (.getfield 32, 3, 12, 21, 0) from rfl) (by decide) rfl rfl h) ?_
                refine d_lift (fun k ws X h => z_const X (show cdA 227 112 = some (.iconst 2, 1, 0, 0, 0) from rfl) h) ?_
                refine d_lift (fun k ws X h => w_dup2_11 X.1 (ax_d X (show cdA 227 113 = some (.dup2, 1, 0, 0, 0) from rfl)) rfl rfl h) ?_
                refine d_ald 184 (show cdA 227 114 = some (.iaload, 1, 0, 0, 0) from rfl) (by decide) rfl (by omega) (show 2 < 7 by omega) (by decide) (hta3001 161 (by decide) _ (show (2 : Int).toNat < 7 by omega)) ?_
                have b3112 : ((-2147483648) : Int) ≤ iC t 161 (2 : Int).toNat ∧ iC t 161 (2 : Int).toNat ≤ 2147483647 := I.2 161 _ (show (2 : Int).toNat < 7 by omega)
                refine d_lift (fun k ws X h => z_aload_n X (x := A 179) (show cdA 227 115 = some (.aload_n 0, 1, 0, 0, 0) from rfl) (List.Mem.tail _ (List.Mem.tail _ (List.Mem.tail _ (List.Mem.head _)))) h) ?_
                refine d_liftS (fun k s X h => s_getR X 179 (show cdA 227 116 = some (.getfield 61, 3, 12, 32, 0) from rfl) (by decide) rfl rfl h) ?_
                refine d_lift (fun k ws X h => z_load_n X (x := a) (show cdA 227 119 = some (.iload_n 1, 1, 0, 0, 0) from rfl) (List.Mem.tail _ (List.Mem.tail _ (List.Mem.tail _ (List.Mem.tail _ (List.Mem.head _))))) h) ?_
                refine d_ald 229 (show cdA 227 120 = some (.iaload, 1, 0, 0, 0) from rfl) (by decide) rfl (by omega) (show a < 12 by omega) (by decide) (Or.inr ((htn _ (show (a : Int).toNat < 12 by omega) (show (((a : Int).toNat : Nat) : Int) < iI s 90 by omega)).2.1)) ?_
                have b3113 : (0 : Int) ≤ iC t 203 (a).toNat ∧ iC t 203 (a).toNat ≤ 50 := I.2 203 _ (show (a).toNat < 12 by omega)
                have q3114 : iC t 203 (a).toNat = iC s 203 (a).toNat := fm_c F (by decide)
                refine d_lift (fun k ws X h => z_add X (show cdA 227 121 = some (.iadd, 1, 0, 0, 0) from rfl) h) ?_
                refine d_any (fun y3115 hy3115 => ?_)
                refine d_ast 184 (show cdA 227 122 = some (.iastore, 1, 0, 0, 0) from rfl) (by decide) rfl (by omega) (show 2 < 7 by omega) (by decide) (show 161 ∈ _ by decide) (show ((-2147483648) : Int) ≤ y3115 ∧ y3115 ≤ 2147483647 by omega) ⟨by omega, by omega⟩ ?_
                refine d_mono (T' := TU T 161 7) (fun _ h => h) (fun _ _ h => Or.inr h) ?_
                obtain ⟨s3116, hs3116⟩ : ∃ x0, x0 = uC t 161 (2 : Int).toNat (Int32.ofInt y3115) := ⟨_, rfl⟩
                rw [← hs3116]
                have Is3116 : Bd s3116 := by rw [hs3116]; exact bd_C I (show ((-2147483648) : Int) ≤ y3115 ∧ y3115 ≤ 2147483647 by omega) ⟨by omega, by omega⟩
                have Fs3116 := fm_C (i := (2 : Int).toNat) (x := Int32.ofInt y3115) F (show 161 ∈ _ by decide)
                rw [← hs3116] at Fs3116
                have fs3116 : Fm [] [161] t s3116 := by rw [hs3116]; exact fm_C (fm_rf _ _ _) (show 161 ∈ _ by decide)
                have JNW_s3116 : NW s3116 := NW_fm fs3116 (by decide) jjNW
                refine d_lift (fun k ws X h => z_load X (x := (iC t 230 ((iC t (204 + (a : Int).toNat) ((ka - 1) : Int).toNat)).toNat)) (show cdA 227 123 = some (.iload 5, 2, 0, 0, 0) from rfl) (List.Mem.head _) h) ?_
                refine d_br (by omega) (by omega) (fun k ws X h1 h2 => z_if_eq X (t := 172) (show cdA 227 125 = some (.ifCond .eq 47, 3, 0, 0, 0) from rfl) (by decide) ⟨by omega, by omega⟩ h1 h2) (fun g3117 => ?_) (fun g3117 => ?_)
                ·
                  refine d_lift (fun k ws X h => z_load_n X (x := a) (show cdA 227 172 = some (.iload_n 1, 1, 0, 0, 0) from rfl) (List.Mem.tail _ (List.Mem.tail _ (List.Mem.tail _ (List.Mem.tail _ (List.Mem.head _))))) h) ?_
                  refine d_lift (fun k ws X h => z_const X (show cdA 227 173 = some (.iconst 1, 1, 0, 0, 0) from rfl) h) ?_
                  refine d_lift (fun k ws X h => z_add X (show cdA 227 174 = some (.iadd, 1, 0, 0, 0) from rfl) h) ?_
                  refine d_lift (fun k ws X h => z_store X (lv' := [(5, .int (Int32.ofInt (a + 1))), (2, .int (Int32.ofInt 0)), (4, .int (Int32.ofInt (iC t (204 + (a : Int).toNat) (ka : Int).toNat))), (0, .ref (A 179)), (1, .int (Int32.ofInt a)), (3, .int (Int32.ofInt ka))]) (show cdA 227 175 = some (.istore 5, 2, 0, 0, 0) from rfl) (by decide) (fun _ h => h) h) ?_
                  refine d_lvs (lv := [(0, .ref (A 179)), (1, .int (Int32.ofInt a)), (2, .int (Int32.ofInt 0)), (3, .int (Int32.ofInt ka)), (4, .int (Int32.ofInt (iC t (204 + (a : Int).toNat) (ka : Int).toNat))), (5, .int (Int32.ofInt (a + 1)))]) (List.forall_mem_cons.mpr ⟨(List.Mem.tail _ (List.Mem.tail _ (List.Mem.tail _ (List.Mem.head _)))), (List.forall_mem_cons.mpr ⟨(List.Mem.tail _ (List.Mem.tail _ (List.Mem.tail _ (List.Mem.tail _ (List.Mem.head _))))), (List.forall_mem_cons.mpr ⟨(List.Mem.tail _ (List.Mem.head _)), (List.forall_mem_cons.mpr ⟨(List.Mem.tail _ (List.Mem.tail _ (List.Mem.tail _ (List.Mem.tail _ (List.Mem.tail _ (List.Mem.head _)))))), (List.forall_mem_cons.mpr ⟨(List.Mem.tail _ (List.Mem.tail _ (List.Mem.head _))), (List.forall_mem_cons.mpr ⟨(List.Mem.head _), (fun q h => absurd h List.not_mem_nil)⟩)⟩)⟩)⟩)⟩)⟩) ?_
                  refine L177 ((12 - (a + 1) : Int)).toNat s3116 a 0 ka (iC t (204 + (a : Int).toNat) (ka : Int).toNat) (a + 1) Is3116 Fs3116 JNW_s3116 (by omega) (by omega) ?_
                  intro s3118 x3119 Is3118 Fs3118 JNW_s3118 hs3118
                  have hta3120 : ∀ a ∈ ([161, 230] : List Nat), ∀ j, j < (bA a).2.2 → (TU T 161 7).2 a j := hta_g hta (by decide)
                  refine d_lift (fun k ws X h => z_inc X (x := ka) (lv' := [(3, .int (Int32.ofInt (ka + 1))), (0, .ref (A 179)), (1, .int (Int32.ofInt a)), (2, .int (Int32.ofInt 0)), (4, .int (Int32.ofInt (iC t (204 + (a : Int).toNat) (ka : Int).toNat))), (5, .int (Int32.ofInt x3119))]) (show cdA 227 278 = some (.iinc 3 1, 3, 0, 0, 0) from rfl) (by decide) (List.Mem.tail _ (List.Mem.tail _ (List.Mem.tail _ (List.Mem.head _)))) (fun _ h => h) h) ?_
                  refine d_lift (fun k ws X h => z_goto X (t := 35) (show cdA 227 281 = some (.goto (-246), 3, 0, 0, 0) from rfl) (by decide) h) ?_
                  refine d_lvs (lv := [(0, .ref (A 179)), (1, .int (Int32.ofInt a)), (2, .int (Int32.ofInt 0)), (3, .int (Int32.ofInt (ka + 1)))]) (List.forall_mem_cons.mpr ⟨(List.Mem.tail _ (List.Mem.head _)), (List.forall_mem_cons.mpr ⟨(List.Mem.tail _ (List.Mem.tail _ (List.Mem.head _))), (List.forall_mem_cons.mpr ⟨(List.Mem.tail _ (List.Mem.tail _ (List.Mem.tail _ (List.Mem.head _)))), (List.forall_mem_cons.mpr ⟨(List.Mem.head _), (fun q h => absurd h List.not_mem_nil)⟩)⟩)⟩)⟩) ?_
                  exact ih _ a 0 (ka + 1) Is3118 Fs3118 JNW_s3118 (by omega) (by omega) kx
                ·
                  refine d_lift (fun k ws X h => z_aload_n X (x := A 179) (show cdA 227 128 = some (.aload_n 0, 1, 0, 0, 0) from rfl) (List.Mem.tail _ (List.Mem.tail _ (List.Mem.tail _ (List.Mem.head _)))) h) ?_
                  refine d_liftS (fun k s X h => s_getR X 179 (show cdA 227 129 = some (.getfield 76, 3, 12, 37, 0) from rfl) (by decide) rfl rfl h) ?_
                  refine d_lift (fun k ws X h => z_load X (x := (iC t (204 + (a : Int).toNat) (ka : Int).toNat)) (show cdA 227 132 = some (.iload 4, 2, 0, 0, 0) from rfl) (List.Mem.tail _ (List.Mem.tail _ (List.Mem.head _))) h) ?_
                  refine d_zald 258 (show cdA 227 134 = some (.baload, 1, 0, 0, 0) from rfl) (by decide) rfl (by omega) (show (iC t (204 + (a : Int).toNat) (ka : Int).toNat) < 128 by omega) (by decide) (hta3001 230 (by decide) _ (show ((iC t (204 + (a : Int).toNat) (ka : Int).toNat)).toNat < 128 by omega)) ?_
                  have b3121 : (0 : Int) ≤ iC s3116 230 ((iC t (204 + (a : Int).toNat) (ka : Int).toNat)).toNat ∧ iC s3116 230 ((iC t (204 + (a : Int).toNat) (ka : Int).toNat)).toNat ≤ 1 := Is3116.2 230 _ (show ((iC t (204 + (a : Int).toNat) (ka : Int).toNat)).toNat < 128 by omega)
                  have q3122 : iC s3116 230 ((iC t (204 + (a : Int).toNat) (ka : Int).toNat)).toNat = iC s 230 ((iC t (204 + (a : Int).toNat) (ka : Int).toNat)).toNat := fm_c Fs3116 (by decide)
                  refine d_br (by omega) (by omega) (fun k ws X h1 h2 => z_if_eq X (t := 172) (show cdA 227 135 = some (.ifCond .eq 37, 3, 0, 0, 0) from rfl) (by decide) ⟨by omega, by omega⟩ h1 h2) (fun g3123 => ?_) (fun g3123 => ?_)
                  ·
                    refine d_lift (fun k ws X h => z_load_n X (x := a) (show cdA 227 172 = some (.iload_n 1, 1, 0, 0, 0) from rfl) (List.Mem.tail _ (List.Mem.tail _ (List.Mem.tail _ (List.Mem.tail _ (List.Mem.head _))))) h) ?_
                    refine d_lift (fun k ws X h => z_const X (show cdA 227 173 = some (.iconst 1, 1, 0, 0, 0) from rfl) h) ?_
                    refine d_lift (fun k ws X h => z_add X (show cdA 227 174 = some (.iadd, 1, 0, 0, 0) from rfl) h) ?_
                    refine d_lift (fun k ws X h => z_store X (lv' := [(5, .int (Int32.ofInt (a + 1))), (2, .int (Int32.ofInt 0)), (4, .int (Int32.ofInt (iC t (204 + (a : Int).toNat) (ka : Int).toNat))), (0, .ref (A 179)), (1, .int (Int32.ofInt a)), (3, .int (Int32.ofInt ka))]) (show cdA 227 175 = some (.istore 5, 2, 0, 0, 0) from rfl) (by decide) (fun _ h => h) h) ?_
                    refine d_lvs (lv := [(0, .ref (A 179)), (1, .int (Int32.ofInt a)), (2, .int (Int32.ofInt 0)), (3, .int (Int32.ofInt ka)), (4, .int (Int32.ofInt (iC t (204 + (a : Int).toNat) (ka : Int).toNat))), (5, .int (Int32.ofInt (a + 1)))]) (List.forall_mem_cons.mpr ⟨(List.Mem.tail _ (List.Mem.tail _ (List.Mem.tail _ (List.Mem.head _)))), (List.forall_mem_cons.mpr ⟨(List.Mem.tail _ (List.Mem.tail _ (List.Mem.tail _ (List.Mem.tail _ (List.Mem.head _))))), (List.forall_mem_cons.mpr ⟨(List.Mem.tail _ (List.Mem.head _)), (List.forall_mem_cons.mpr ⟨(List.Mem.tail _ (List.Mem.tail _ (List.Mem.tail _ (List.Mem.tail _ (List.Mem.tail _ (List.Mem.head _)))))), (List.forall_mem_cons.mpr ⟨(List.Mem.tail _ (List.Mem.tail _ (List.Mem.head _))), (List.forall_mem_cons.mpr ⟨(List.Mem.head _), (fun q h => absurd h List.not_mem_nil)⟩)⟩)⟩)⟩)⟩)⟩) ?_
                    refine L177 ((12 - (a + 1) : Int)).toNat s3116 a 0 ka (iC t (204 + (a : Int).toNat) (ka : Int).toNat) (a + 1) Is3116 Fs3116 JNW_s3116 (by omega) (by omega) ?_
                    intro s3124 x3125 Is3124 Fs3124 JNW_s3124 hs3124
                    have hta3126 : ∀ a ∈ ([161, 230] : List Nat), ∀ j, j < (bA a).2.2 → (TU T 161 7).2 a j := hta_g hta (by decide)
                    refine d_lift (fun k ws X h => z_inc X (x := ka) (lv' := [(3, .int (Int32.ofInt (ka + 1))), (0, .ref (A 179)), (1, .int (Int32.ofInt a)), (2, .int (Int32.ofInt 0)), (4, .int (Int32.ofInt (iC t (204 + (a : Int).toNat) (ka : Int).toNat))), (5, .int (Int32.ofInt x3125))]) (show cdA 227 278 = some (.iinc 3 1, 3, 0, 0, 0) from rfl) (by decide) (List.Mem.tail _ (List.Mem.tail _ (List.Mem.tail _ (List.Mem.head _)))) (fun _ h => h) h) ?_
                    refine d_lift (fun k ws X h => z_goto X (t := 35) (show cdA 227 281 = some (.goto (-246), 3, 0, 0, 0) from rfl) (by decide) h) ?_
                    refine d_lvs (lv := [(0, .ref (A 179)), (1, .int (Int32.ofInt a)), (2, .int (Int32.ofInt 0)), (3, .int (Int32.ofInt (ka + 1)))]) (List.forall_mem_cons.mpr ⟨(List.Mem.tail _ (List.Mem.head _)), (List.forall_mem_cons.mpr ⟨(List.Mem.tail _ (List.Mem.tail _ (List.Mem.head _))), (List.forall_mem_cons.mpr ⟨(List.Mem.tail _ (List.Mem.tail _ (List.Mem.tail _ (List.Mem.head _)))), (List.forall_mem_cons.mpr ⟨(List.Mem.head _), (fun q h => absurd h List.not_mem_nil)⟩)⟩)⟩)⟩) ?_
                    exact ih _ a 0 (ka + 1) Is3124 Fs3124 JNW_s3124 (by omega) (by omega) kx
                  ·
                    refine d_lift (fun k ws X h => z_aload_n X (x := A 179) (show cdA 227 138 = some (.aload_n 0, 1, 0, 0, 0) from rfl) (List.Mem.tail _ (List.Mem.tail _ (List.Mem.tail _ (List.Mem.head _)))) h) ?_
                    refine d_liftS (fun k s X h => s_getR X 179 (show cdA 227 139 = some (.getfield 64, 3, 12, 33, 0) from rfl) (by decide) rfl rfl h) ?_
                    refine d_lift (fun k ws X h => z_load_n X (x := a) (show cdA 227 142 = some (.iload_n 1, 1, 0, 0, 0) from rfl) (List.Mem.tail _ (List.Mem.tail _ (List.Mem.tail _ (List.Mem.tail _ (List.Mem.head _))))) h) ?_
                    refine d_liftS (fun k s X h => z_aald X rw_230 (show cdA 227 143 = some (.aaload, 1, 0, 0, 0) from rfl) (by omega) (show a < 12 by omega) (by decide) h) ?_
                    refine d_lift (fun k ws X h => z_load_n X (x := ka) (show cdA 227 144 = some (.iload_n 3, 1, 0, 0, 0) from rfl) (List.Mem.tail _ (List.Mem.tail _ (List.Mem.tail _ (List.Mem.tail _ (List.Mem.tail _ (List.Mem.head _)))))) h) ?_
                    refine d_lift (fun k ws X h => z_const X (show cdA 227 145 = some (.iconst 1, 1, 0, 0, 0) from rfl) h) ?_
                    refine d_lift (fun k ws X h => z_sub X (show cdA 227 146 = some (.isub, 1, 0, 0, 0) from rfl) h) ?_
                    refine d_ald2 rw_230 (show cdA 227 147 = some (.iaload, 1, 0, 0, 0) from rfl) (show (a : Int).toNat < 12 by omega) (by omega) (show (ka - 1) < 24 by omega) (by decide) (Or.inr ((htn _ (show (a : Int).toNat < 12 by omega) (show (((a : Int).toNat : Nat) : Int) < iI s 90 by omega)).2.2.2 _ (show ((((ka - 1) : Int).toNat : Nat) : Int) < iC s 202 (a : Int).toNat by omega))) ?_
                    have b3127 : (0 : Int) ≤ (iC s3116 (204 + (a : Int).toNat) ((ka - 1) : Int).toNat) ∧ (iC s3116 (204 + (a : Int).toNat) ((ka - 1) : Int).toNat) ≤ 127 := rw_bd rw_230 Is3116 (show (a : Int).toNat < 12 by omega) (show ((ka - 1) : Int).toNat < 24 by omega)
                    refine d_lift (fun k ws X h => z_load X (x := (iC t (204 + (a : Int).toNat) (ka : Int).toNat)) (show cdA 227 148 = some (.iload 4, 2, 0, 0, 0) from rfl) (List.Mem.tail _ (List.Mem.tail _ (List.Mem.head _))) h) ?_
                    refine d_callT (As := [.int (Int32.ofInt (iC s3116 (204 + (a : Int).toNat) ((ka - 1) : Int).toNat)), .int (Int32.ofInt (iC t (204 + (a : Int).toNat) (ka : Int).toNat))]) (st := []) (show cdA 227 150 = some (.invokestatic 312, 3, 225, 1, 0) from rfl) rfl (d_stepOf (T := TU T 161 7) G Is3116 (by omega) (by omega) (fun q h => hti q ((by decide : ∀ q ∈ ([] : List Nat), q ∈ ([90, 89] : List Nat)) q h)) (fun a h => hta3001 a ((by decide : ∀ q ∈ ([] : List Nat), q ∈ ([161, 230] : List Nat)) a h))) ⟨rfl, rfl⟩ ⟨(show 6 + 1 ≤ 8 by omega), (show 8 + (mNL (miB 225) + 11) + 100 ≤ 143 by simp only [show mNL (miB 225) = 2 from rfl]; omega)⟩ (Nat.le_of_ble_eq_true rfl) (by decide) (by decide) (fun ee s3128 hq => ?_) (fun vv s3128 hq => ?_)
                    · obtain ⟨Is3128, Fs3128, e3129, hv, hrs3128, hps3128⟩ := hq; cases hv
                    obtain ⟨Is3128, Fs3128, e3129, hv, hrs3128, hps3128⟩ := hq
                    cases hv
                    have Gs3128 := fm_ts Fs3116 Fs3128 (by decide) (by decide)
                    have JNW_s3128 : NW s3128 := NW_fm Fs3128 (by decide) JNW_s3116
                    show DS l s0 D A dT 227 (rmN 227) [] [161] (TU T 161 7) Q (TU T 161 7) 153 [(5, .int (Int32.ofInt (iC t 230 ((iC t (204 + (a : Int).toNat) ((ka - 1) : Int).toNat)).toNat))), (2, .int (Int32.ofInt 0)), (4, .int (Int32.ofInt (iC t (204 + (a : Int).toNat) (ka : Int).toNat))), (0, .ref (A 179)), (1, .int (Int32.ofInt a)), (3, .int (Int32.ofInt ka))] [.int (Int32.ofInt e3129)] s3128
                    refine d_lift (fun k ws X h => z_const X (show cdA 227 153 = some (.iconst 3, 1, 0, 0, 0) from rfl) h) ?_
                    refine d_br (by omega) (by omega) (fun k ws X h1 h2 => z_icmp_le X (t := 172) (show cdA 227 154 = some (.if_icmp .le 18, 3, 5, 0, 0) from rfl) (by decide) ⟨by omega, by omega⟩ ⟨by omega, by omega⟩ h1 h2) (fun g3130 => ?_) (fun g3130 => ?_)
                    ·
                      refine d_lift (fun k ws X h => z_load_n X (x := a) (show cdA 227 172 = some (.iload_n 1, 1, 0, 0, 0) from rfl) (List.Mem.tail _ (List.Mem.tail _ (List.Mem.tail _ (List.Mem.tail _ (List.Mem.head _))))) h) ?_
                      refine d_lift (fun k ws X h => z_const X (show cdA 227 173 = some (.iconst 1, 1, 0, 0, 0) from rfl) h) ?_
                      refine d_lift (fun k ws X h => z_add X (show cdA 227 174 = some (.iadd, 1, 0, 0, 0) from rfl) h) ?_
                      refine d_lift (fun k ws X h => z_store X (lv' := [(5, .int (Int32.ofInt (a + 1))), (2, .int (Int32.ofInt 0)), (4, .int (Int32.ofInt (iC t (204 + (a : Int).toNat) (ka : Int).toNat))), (0, .ref (A 179)), (1, .int (Int32.ofInt a)), (3, .int (Int32.ofInt ka))]) (show cdA 227 175 = some (.istore 5, 2, 0, 0, 0) from rfl) (by decide) (fun _ h => h) h) ?_
                      refine d_lvs (lv := [(0, .ref (A 179)), (1, .int (Int32.ofInt a)), (2, .int (Int32.ofInt 0)), (3, .int (Int32.ofInt ka)), (4, .int (Int32.ofInt (iC t (204 + (a : Int).toNat) (ka : Int).toNat))), (5, .int (Int32.ofInt (a + 1)))]) (List.forall_mem_cons.mpr ⟨(List.Mem.tail _ (List.Mem.tail _ (List.Mem.tail _ (List.Mem.head _)))), (List.forall_mem_cons.mpr ⟨(List.Mem.tail _ (List.Mem.tail _ (List.Mem.tail _ (List.Mem.tail _ (List.Mem.head _))))), (List.forall_mem_cons.mpr ⟨(List.Mem.tail _ (List.Mem.head _)), (List.forall_mem_cons.mpr ⟨(List.Mem.tail _ (List.Mem.tail _ (List.Mem.tail _ (List.Mem.tail _ (List.Mem.tail _ (List.Mem.head _)))))), (List.forall_mem_cons.mpr ⟨(List.Mem.tail _ (List.Mem.tail _ (List.Mem.head _))), (List.forall_mem_cons.mpr ⟨(List.Mem.head _), (fun q h => absurd h List.not_mem_nil)⟩)⟩)⟩)⟩)⟩)⟩) ?_
                      refine L177 ((12 - (a + 1) : Int)).toNat s3128 a 0 ka (iC t (204 + (a : Int).toNat) (ka : Int).toNat) (a + 1) Is3128 Gs3128 JNW_s3128 (by omega) (by omega) ?_
                      intro s3131 x3132 Is3131 Fs3131 JNW_s3131 hs3131
                      have hta3133 : ∀ a ∈ ([161, 230] : List Nat), ∀ j, j < (bA a).2.2 → (TU T 161 7).2 a j := hta_g hta (by decide)
                      refine d_lift (fun k ws X h => z_inc X (x := ka) (lv' := [(3, .int (Int32.ofInt (ka + 1))), (0, .ref (A 179)), (1, .int (Int32.ofInt a)), (2, .int (Int32.ofInt 0)), (4, .int (Int32.ofInt (iC t (204 + (a : Int).toNat) (ka : Int).toNat))), (5, .int (Int32.ofInt x3132))]) (show cdA 227 278 = some (.iinc 3 1, 3, 0, 0, 0) from rfl) (by decide) (List.Mem.tail _ (List.Mem.tail _ (List.Mem.tail _ (List.Mem.head _)))) (fun _ h => h) h) ?_
                      refine d_lift (fun k ws X h => z_goto X (t := 35) (show cdA 227 281 = some (.goto (-246), 3, 0, 0, 0) from rfl) (by decide) h) ?_
                      refine d_lvs (lv := [(0, .ref (A 179)), (1, .int (Int32.ofInt a)), (2, .int (Int32.ofInt 0)), (3, .int (Int32.ofInt (ka + 1)))]) (List.forall_mem_cons.mpr ⟨(List.Mem.tail _ (List.Mem.head _)), (List.forall_mem_cons.mpr ⟨(List.Mem.tail _ (List.Mem.tail _ (List.Mem.head _))), (List.forall_mem_cons.mpr ⟨(List.Mem.tail _ (List.Mem.tail _ (List.Mem.tail _ (List.Mem.head _)))), (List.forall_mem_cons.mpr ⟨(List.Mem.head _), (fun q h => absurd h List.not_mem_nil)⟩)⟩)⟩)⟩) ?_
                      exact ih _ a 0 (ka + 1) Is3131 Fs3131 JNW_s3131 (by omega) (by omega) kx
                    ·
                      refine d_lift (fun k ws X h => z_aload_n X (x := A 179) (show cdA 227 157 = some (.aload_n 0, 1, 0, 0, 0) from rfl) (List.Mem.tail _ (List.Mem.tail _ (List.Mem.tail _ (List.Mem.head _)))) h) ?_
                      refine d_liftS (fun k s X h => s_getR X 179 (show cdA 227 158 = some (.getfield 32, 3, 12, 21, 0) from rfl) (by decide) rfl rfl h) ?_
                      refine d_lift (fun k ws X h => z_const X (show cdA 227 161 = some (.iconst 3, 1, 0, 0, 0) from rfl) h) ?_
                      refine d_lift (fun k ws X h => w_dup2_11 X.1 (ax_d X (show cdA 227 162 = some (.dup2, 1, 0, 0, 0) from rfl)) rfl rfl h) ?_
                      refine d_ald 184 (show cdA 227 163 = some (.iaload, 1, 0, 0, 0) from rfl) (by decide) rfl (by omega) (show 3 < 7 by omega) (by decide) (hta3001 161 (by decide) _ (show (3 : Int).toNat < 7 by omega)) ?_
                      have b3134 : ((-2147483648) : Int) ≤ iC s3128 161 (3 : Int).toNat ∧ iC s3128 161 (3 : Int).toNat ≤ 2147483647 := Is3128.2 161 _ (show (3 : Int).toNat < 7 by omega)
                      refine d_lift (fun k ws X h => z_aload_n X (x := A 179) (show cdA 227 164 = some (.aload_n 0, 1, 0, 0, 0) from rfl) (List.Mem.tail _ (List.Mem.tail _ (List.Mem.tail _ (List.Mem.head _)))) h) ?_
                      refine d_liftS (fun k s X h => s_getR X 179 (show cdA 227 165 = some (.getfield 61, 3, 12, 32, 0) from rfl) (by decide) rfl rfl h) ?_
                      refine d_lift (fun k ws X h => z_load_n X (x := a) (show cdA 227 168 = some (.iload_n 1, 1, 0, 0, 0) from rfl) (List.Mem.tail _ (List.Mem.tail _ (List.Mem.tail _ (List.Mem.tail _ (List.Mem.head _))))) h) ?_
                      refine d_ald 229 (show cdA 227 169 = some (.iaload, 1, 0, 0, 0) from rfl) (by decide) rfl (by omega) (show a < 12 by omega) (by decide) (Or.inr ((htn _ (show (a : Int).toNat < 12 by omega) (show (((a : Int).toNat : Nat) : Int) < iI s 90 by omega)).2.1)) ?_
                      have b3135 : (0 : Int) ≤ iC s3128 203 (a).toNat ∧ iC s3128 203 (a).toNat ≤ 50 := Is3128.2 203 _ (show (a).toNat < 12 by omega)
                      have q3136 : iC s3128 203 (a).toNat = iC s 203 (a).toNat := fm_c Gs3128 (by decide)
                      refine d_lift (fun k ws X h => z_add X (show cdA 227 170 = some (.iadd, 1, 0, 0, 0) from rfl) h) ?_
                      refine d_any (fun y3137 hy3137 => ?_)
                      refine d_ast 184 (show cdA 227 171 = some (.iastore, 1, 0, 0, 0) from rfl) (by decide) rfl (by omega) (show 3 < 7 by omega) (by decide) (show 161 ∈ _ by decide) (show ((-2147483648) : Int) ≤ y3137 ∧ y3137 ≤ 2147483647 by omega) ⟨by omega, by omega⟩ ?_
                      refine d_mono (T' := TU T 161 7) (fun _ h => h) (fun _ _ h => Or.inr h) ?_
                      obtain ⟨s3138, hs3138⟩ : ∃ x0, x0 = uC s3128 161 (3 : Int).toNat (Int32.ofInt y3137) := ⟨_, rfl⟩
                      rw [← hs3138]
                      have Is3138 : Bd s3138 := by rw [hs3138]; exact bd_C Is3128 (show ((-2147483648) : Int) ≤ y3137 ∧ y3137 ≤ 2147483647 by omega) ⟨by omega, by omega⟩
                      have Fs3138 := fm_C (i := (3 : Int).toNat) (x := Int32.ofInt y3137) Gs3128 (show 161 ∈ _ by decide)
                      rw [← hs3138] at Fs3138
                      have fs3138 : Fm [] [161] s3128 s3138 := by rw [hs3138]; exact fm_C (fm_rf _ _ _) (show 161 ∈ _ by decide)
                      have JNW_s3138 : NW s3138 := NW_fm fs3138 (by decide) JNW_s3128
                      refine d_lift (fun k ws X h => z_load_n X (x := a) (show cdA 227 172 = some (.iload_n 1, 1, 0, 0, 0) from rfl) (List.Mem.tail _ (List.Mem.tail _ (List.Mem.tail _ (List.Mem.tail _ (List.Mem.head _))))) h) ?_
                      refine d_lift (fun k ws X h => z_const X (show cdA 227 173 = some (.iconst 1, 1, 0, 0, 0) from rfl) h) ?_
                      refine d_lift (fun k ws X h => z_add X (show cdA 227 174 = some (.iadd, 1, 0, 0, 0) from rfl) h) ?_
                      refine d_lift (fun k ws X h => z_store X (lv' := [(5, .int (Int32.ofInt (a + 1))), (2, .int (Int32.ofInt 0)), (4, .int (Int32.ofInt (iC t (204 + (a : Int).toNat) (ka : Int).toNat))), (0, .ref (A 179)), (1, .int (Int32.ofInt a)), (3, .int (Int32.ofInt ka))]) (show cdA 227 175 = some (.istore 5, 2, 0, 0, 0) from rfl) (by decide) (fun _ h => h) h) ?_
                      refine d_lvs (lv := [(0, .ref (A 179)), (1, .int (Int32.ofInt a)), (2, .int (Int32.ofInt 0)), (3, .int (Int32.ofInt ka)), (4, .int (Int32.ofInt (iC t (204 + (a : Int).toNat) (ka : Int).toNat))), (5, .int (Int32.ofInt (a + 1)))]) (List.forall_mem_cons.mpr ⟨(List.Mem.tail _ (List.Mem.tail _ (List.Mem.tail _ (List.Mem.head _)))), (List.forall_mem_cons.mpr ⟨(List.Mem.tail _ (List.Mem.tail _ (List.Mem.tail _ (List.Mem.tail _ (List.Mem.head _))))), (List.forall_mem_cons.mpr ⟨(List.Mem.tail _ (List.Mem.head _)), (List.forall_mem_cons.mpr ⟨(List.Mem.tail _ (List.Mem.tail _ (List.Mem.tail _ (List.Mem.tail _ (List.Mem.tail _ (List.Mem.head _)))))), (List.forall_mem_cons.mpr ⟨(List.Mem.tail _ (List.Mem.tail _ (List.Mem.head _))), (List.forall_mem_cons.mpr ⟨(List.Mem.head _), (fun q h => absurd h List.not_mem_nil)⟩)⟩)⟩)⟩)⟩)⟩) ?_
                      refine L177 ((12 - (a + 1) : Int)).toNat s3138 a 0 ka (iC t (204 + (a : Int).toNat) (ka : Int).toNat) (a + 1) Is3138 Fs3138 JNW_s3138 (by omega) (by omega) ?_
                      intro s3139 x3140 Is3139 Fs3139 JNW_s3139 hs3139
                      have hta3141 : ∀ a ∈ ([161, 230] : List Nat), ∀ j, j < (bA a).2.2 → (TU T 161 7).2 a j := hta_g hta (by decide)
                      refine d_lift (fun k ws X h => z_inc X (x := ka) (lv' := [(3, .int (Int32.ofInt (ka + 1))), (0, .ref (A 179)), (1, .int (Int32.ofInt a)), (2, .int (Int32.ofInt 0)), (4, .int (Int32.ofInt (iC t (204 + (a : Int).toNat) (ka : Int).toNat))), (5, .int (Int32.ofInt x3140))]) (show cdA 227 278 = some (.iinc 3 1, 3, 0, 0, 0) from rfl) (by decide) (List.Mem.tail _ (List.Mem.tail _ (List.Mem.tail _ (List.Mem.head _)))) (fun _ h => h) h) ?_
                      refine d_lift (fun k ws X h => z_goto X (t := 35) (show cdA 227 281 = some (.goto (-246), 3, 0, 0, 0) from rfl) (by decide) h) ?_
                      refine d_lvs (lv := [(0, .ref (A 179)), (1, .int (Int32.ofInt a)), (2, .int (Int32.ofInt 0)), (3, .int (Int32.ofInt (ka + 1)))]) (List.forall_mem_cons.mpr ⟨(List.Mem.tail _ (List.Mem.head _)), (List.forall_mem_cons.mpr ⟨(List.Mem.tail _ (List.Mem.tail _ (List.Mem.head _))), (List.forall_mem_cons.mpr ⟨(List.Mem.tail _ (List.Mem.tail _ (List.Mem.tail _ (List.Mem.head _)))), (List.forall_mem_cons.mpr ⟨(List.Mem.head _), (fun q h => absurd h List.not_mem_nil)⟩)⟩)⟩)⟩) ?_
                      exact ih _ a 0 (ka + 1) Is3139 Fs3139 JNW_s3139 (by omega) (by omega) kx
          ·
            refine d_lift (fun k ws X h => z_const X (show cdA 227 69 = some (.iconst 1, 1, 0, 0, 0) from rfl) h) ?_
            refine d_lift (fun k ws X h => z_goto X (t := 74) (show cdA 227 70 = some (.goto 4, 3, 0, 0, 0) from rfl) (by decide) h) ?_
            refine d_lift (fun k ws X h => z_store_n X (lv' := [(2, .int (Int32.ofInt 1)), (4, .int (Int32.ofInt (iC t (204 + (a : Int).toNat) (ka : Int).toNat))), (0, .ref (A 179)), (1, .int (Int32.ofInt a)), (3, .int (Int32.ofInt ka))]) (show cdA 227 74 = some (.istore_n 2, 1, 0, 0, 0) from rfl) (by decide) (fun _ h => h) h) ?_
            refine d_lift (fun k ws X h => z_load_n X (x := ka) (show cdA 227 75 = some (.iload_n 3, 1, 0, 0, 0) from rfl) (List.Mem.tail _ (List.Mem.tail _ (List.Mem.tail _ (List.Mem.tail _ (List.Mem.head _))))) h) ?_
            refine d_br (by omega) (by omega) (fun k ws X h1 h2 => z_if_le X (t := 172) (show cdA 227 76 = some (.ifCond .le 96, 3, 5, 0, 0) from rfl) (by decide) ⟨by omega, by omega⟩ h1 h2) (fun g3142 => ?_) (fun g3142 => ?_)
            ·
              refine d_lift (fun k ws X h => z_load_n X (x := a) (show cdA 227 172 = some (.iload_n 1, 1, 0, 0, 0) from rfl) (List.Mem.tail _ (List.Mem.tail _ (List.Mem.tail _ (List.Mem.head _)))) h) ?_
              refine d_lift (fun k ws X h => z_const X (show cdA 227 173 = some (.iconst 1, 1, 0, 0, 0) from rfl) h) ?_
              refine d_lift (fun k ws X h => z_add X (show cdA 227 174 = some (.iadd, 1, 0, 0, 0) from rfl) h) ?_
              refine d_lift (fun k ws X h => z_store X (lv' := [(5, .int (Int32.ofInt (a + 1))), (2, .int (Int32.ofInt 1)), (4, .int (Int32.ofInt (iC t (204 + (a : Int).toNat) (ka : Int).toNat))), (0, .ref (A 179)), (1, .int (Int32.ofInt a)), (3, .int (Int32.ofInt ka))]) (show cdA 227 175 = some (.istore 5, 2, 0, 0, 0) from rfl) (by decide) (fun _ h => h) h) ?_
              refine d_lvs (lv := [(0, .ref (A 179)), (1, .int (Int32.ofInt a)), (2, .int (Int32.ofInt 1)), (3, .int (Int32.ofInt ka)), (4, .int (Int32.ofInt (iC t (204 + (a : Int).toNat) (ka : Int).toNat))), (5, .int (Int32.ofInt (a + 1)))]) (List.forall_mem_cons.mpr ⟨(List.Mem.tail _ (List.Mem.tail _ (List.Mem.tail _ (List.Mem.head _)))), (List.forall_mem_cons.mpr ⟨(List.Mem.tail _ (List.Mem.tail _ (List.Mem.tail _ (List.Mem.tail _ (List.Mem.head _))))), (List.forall_mem_cons.mpr ⟨(List.Mem.tail _ (List.Mem.head _)), (List.forall_mem_cons.mpr ⟨(List.Mem.tail _ (List.Mem.tail _ (List.Mem.tail _ (List.Mem.tail _ (List.Mem.tail _ (List.Mem.head _)))))), (List.forall_mem_cons.mpr ⟨(List.Mem.tail _ (List.Mem.tail _ (List.Mem.head _))), (List.forall_mem_cons.mpr ⟨(List.Mem.head _), (fun q h => absurd h List.not_mem_nil)⟩)⟩)⟩)⟩)⟩)⟩) ?_
              refine L177 ((12 - (a + 1) : Int)).toNat t a 1 ka (iC t (204 + (a : Int).toNat) (ka : Int).toNat) (a + 1) I F jjNW (by omega) (by omega) ?_
              intro s3143 x3144 Is3143 Fs3143 JNW_s3143 hs3143
              have hta3145 : ∀ a ∈ ([161, 230] : List Nat), ∀ j, j < (bA a).2.2 → (TU T 161 7).2 a j := hta_g hta (by decide)
              refine d_lift (fun k ws X h => z_inc X (x := ka) (lv' := [(3, .int (Int32.ofInt (ka + 1))), (0, .ref (A 179)), (1, .int (Int32.ofInt a)), (2, .int (Int32.ofInt 1)), (4, .int (Int32.ofInt (iC t (204 + (a : Int).toNat) (ka : Int).toNat))), (5, .int (Int32.ofInt x3144))]) (show cdA 227 278 = some (.iinc 3 1, 3, 0, 0, 0) from rfl) (by decide) (List.Mem.tail _ (List.Mem.tail _ (List.Mem.tail _ (List.Mem.head _)))) (fun _ h => h) h) ?_
              refine d_lift (fun k ws X h => z_goto X (t := 35) (show cdA 227 281 = some (.goto (-246), 3, 0, 0, 0) from rfl) (by decide) h) ?_
              refine d_lvs (lv := [(0, .ref (A 179)), (1, .int (Int32.ofInt a)), (2, .int (Int32.ofInt 1)), (3, .int (Int32.ofInt (ka + 1)))]) (List.forall_mem_cons.mpr ⟨(List.Mem.tail _ (List.Mem.head _)), (List.forall_mem_cons.mpr ⟨(List.Mem.tail _ (List.Mem.tail _ (List.Mem.head _))), (List.forall_mem_cons.mpr ⟨(List.Mem.tail _ (List.Mem.tail _ (List.Mem.tail _ (List.Mem.head _)))), (List.forall_mem_cons.mpr ⟨(List.Mem.head _), (fun q h => absurd h List.not_mem_nil)⟩)⟩)⟩)⟩) ?_
              exact ih _ a 1 (ka + 1) Is3143 Fs3143 JNW_s3143 (by omega) (by omega) kx
            ·
              refine d_lift (fun k ws X h => z_aload_n X (x := A 179) (show cdA 227 79 = some (.aload_n 0, 1, 0, 0, 0) from rfl) (List.Mem.tail _ (List.Mem.tail _ (List.Mem.head _))) h) ?_
              refine d_liftS (fun k s X h => s_getR X 179 (show cdA 227 80 = some (.getfield 76, 3, 12, 37, 0) from rfl) (by decide) rfl rfl h) ?_
              refine d_lift (fun k ws X h => z_aload_n X (x := A 179) (show cdA 227 83 = some (.aload_n 0, 1, 0, 0, 0) from rfl) (List.Mem.tail _ (List.Mem.tail _ (List.Mem.head _))) h) ?_
              refine d_liftS (fun k s X h => s_getR X 179 (show cdA 227 84 = some (.getfield 64, 3, 12, 33, 0) from rfl) (by decide) rfl rfl h) ?_
              refine d_lift (fun k ws X h => z_load_n X (x := a) (show cdA 227 87 = some (.iload_n 1, 1, 0, 0, 0) from rfl) (List.Mem.tail _ (List.Mem.tail _ (List.Mem.tail _ (List.Mem.head _)))) h) ?_
              refine d_liftS (fun k s X h => z_aald X rw_230 (show cdA 227 88 = some (.aaload, 1, 0, 0, 0) from rfl) (by omega) (show a < 12 by omega) (by decide) h) ?_
              refine d_lift (fun k ws X h => z_load_n X (x := ka) (show cdA 227 89 = some (.iload_n 3, 1, 0, 0, 0) from rfl) (List.Mem.tail _ (List.Mem.tail _ (List.Mem.tail _ (List.Mem.tail _ (List.Mem.head _))))) h) ?_
              refine d_lift (fun k ws X h => z_const X (show cdA 227 90 = some (.iconst 1, 1, 0, 0, 0) from rfl) h) ?_
              refine d_lift (fun k ws X h => z_sub X (show cdA 227 91 = some (.isub, 1, 0, 0, 0) from rfl) h) ?_
              refine d_ald2 rw_230 (show cdA 227 92 = some (.iaload, 1, 0, 0, 0) from rfl) (show (a : Int).toNat < 12 by omega) (by omega) (show (ka - 1) < 24 by omega) (by decide) (Or.inr ((htn _ (show (a : Int).toNat < 12 by omega) (show (((a : Int).toNat : Nat) : Int) < iI s 90 by omega)).2.2.2 _ (show ((((ka - 1) : Int).toNat : Nat) : Int) < iC s 202 (a : Int).toNat by omega))) ?_
              have b3146 : (0 : Int) ≤ (iC t (204 + (a : Int).toNat) ((ka - 1) : Int).toNat) ∧ (iC t (204 + (a : Int).toNat) ((ka - 1) : Int).toNat) ≤ 127 := rw_bd rw_230 I (show (a : Int).toNat < 12 by omega) (show ((ka - 1) : Int).toNat < 24 by omega)
              refine d_zald 258 (show cdA 227 93 = some (.baload, 1, 0, 0, 0) from rfl) (by decide) rfl (by omega) (show (iC t (204 + (a : Int).toNat) ((ka - 1) : Int).toNat) < 128 by omega) (by decide) (hta3001 230 (by decide) _ (show ((iC t (204 + (a : Int).toNat) ((ka - 1) : Int).toNat)).toNat < 128 by omega)) ?_
              have b3147 : (0 : Int) ≤ iC t 230 ((iC t (204 + (a : Int).toNat) ((ka - 1) : Int).toNat)).toNat ∧ iC t 230 ((iC t (204 + (a : Int).toNat) ((ka - 1) : Int).toNat)).toNat ≤ 1 := I.2 230 _ (show ((iC t (204 + (a : Int).toNat) ((ka - 1) : Int).toNat)).toNat < 128 by omega)
              have q3148 : iC t 230 ((iC t (204 + (a : Int).toNat) ((ka - 1) : Int).toNat)).toNat = iC s 230 ((iC t (204 + (a : Int).toNat) ((ka - 1) : Int).toNat)).toNat := fm_c F (by decide)
              refine d_lift (fun k ws X h => z_store X (lv' := [(5, .int (Int32.ofInt (iC t 230 ((iC t (204 + (a : Int).toNat) ((ka - 1) : Int).toNat)).toNat))), (2, .int (Int32.ofInt 1)), (4, .int (Int32.ofInt (iC t (204 + (a : Int).toNat) (ka : Int).toNat))), (0, .ref (A 179)), (1, .int (Int32.ofInt a)), (3, .int (Int32.ofInt ka))]) (show cdA 227 94 = some (.istore 5, 2, 0, 0, 0) from rfl) (by decide) (fun _ h => h) h) ?_
              refine d_lift (fun k ws X h => z_load X (x := (iC t 230 ((iC t (204 + (a : Int).toNat) ((ka - 1) : Int).toNat)).toNat)) (show cdA 227 96 = some (.iload 5, 2, 0, 0, 0) from rfl) (List.Mem.head _) h) ?_
              refine d_lift (fun k ws X h => z_aload_n X (x := A 179) (show cdA 227 98 = some (.aload_n 0, 1, 0, 0, 0) from rfl) (List.Mem.tail _ (List.Mem.tail _ (List.Mem.tail _ (List.Mem.head _)))) h) ?_
              refine d_liftS (fun k s X h => s_getR X 179 (show cdA 227 99 = some (.getfield 76, 3, 12, 37, 0) from rfl) (by decide) rfl rfl h) ?_
              refine d_lift (fun k ws X h => z_load X (x := (iC t (204 + (a : Int).toNat) (ka : Int).toNat)) (show cdA 227 102 = some (.iload 4, 2, 0, 0, 0) from rfl) (List.Mem.tail _ (List.Mem.tail _ (List.Mem.head _))) h) ?_
              refine d_zald 258 (show cdA 227 104 = some (.baload, 1, 0, 0, 0) from rfl) (by decide) rfl (by omega) (show (iC t (204 + (a : Int).toNat) (ka : Int).toNat) < 128 by omega) (by decide) (hta3001 230 (by decide) _ (show ((iC t (204 + (a : Int).toNat) (ka : Int).toNat)).toNat < 128 by omega)) ?_
              have b3149 : (0 : Int) ≤ iC t 230 ((iC t (204 + (a : Int).toNat) (ka : Int).toNat)).toNat ∧ iC t 230 ((iC t (204 + (a : Int).toNat) (ka : Int).toNat)).toNat ≤ 1 := I.2 230 _ (show ((iC t (204 + (a : Int).toNat) (ka : Int).toNat)).toNat < 128 by omega)
              have q3150 : iC t 230 ((iC t (204 + (a : Int).toNat) (ka : Int).toNat)).toNat = iC s 230 ((iC t (204 + (a : Int).toNat) (ka : Int).toNat)).toNat := fm_c F (by decide)
              refine d_br (by omega) (by omega) (fun k ws X h1 h2 => z_icmp_eq X (t := 123) (show cdA 227 105 = some (.if_icmp .eq 18, 3, 0, 0, 0) from rfl) (by decide) ⟨by omega, by omega⟩ ⟨by omega, by omega⟩ h1 h2) (fun g3151 => ?_) (fun g3151 => ?_)
              ·
                refine d_lift (fun k ws X h => z_load X (x := (iC t 230 ((iC t (204 + (a : Int).toNat) ((ka - 1) : Int).toNat)).toNat)) (show cdA 227 123 = some (.iload 5, 2, 0, 0, 0) from rfl) (List.Mem.head _) h) ?_
                refine d_br (by omega) (by omega) (fun k ws X h1 h2 => z_if_eq X (t := 172) (show cdA 227 125 = some (.ifCond .eq 47, 3, 0, 0, 0) from rfl) (by decide) ⟨by omega, by omega⟩ h1 h2) (fun g3152 => ?_) (fun g3152 => ?_)
                ·
                  refine d_lift (fun k ws X h => z_load_n X (x := a) (show cdA 227 172 = some (.iload_n 1, 1, 0, 0, 0) from rfl) (List.Mem.tail _ (List.Mem.tail _ (List.Mem.tail _ (List.Mem.tail _ (List.Mem.head _))))) h) ?_
                  refine d_lift (fun k ws X h => z_const X (show cdA 227 173 = some (.iconst 1, 1, 0, 0, 0) from rfl) h) ?_
                  refine d_lift (fun k ws X h => z_add X (show cdA 227 174 = some (.iadd, 1, 0, 0, 0) from rfl) h) ?_
                  refine d_lift (fun k ws X h => z_store X (lv' := [(5, .int (Int32.ofInt (a + 1))), (2, .int (Int32.ofInt 1)), (4, .int (Int32.ofInt (iC t (204 + (a : Int).toNat) (ka : Int).toNat))), (0, .ref (A 179)), (1, .int (Int32.ofInt a)), (3, .int (Int32.ofInt ka))]) (show cdA 227 175 = some (.istore 5, 2, 0, 0, 0) from rfl) (by decide) (fun _ h => h) h) ?_
                  refine d_lvs (lv := [(0, .ref (A 179)), (1, .int (Int32.ofInt a)), (2, .int (Int32.ofInt 1)), (3, .int (Int32.ofInt ka)), (4, .int (Int32.ofInt (iC t (204 + (a : Int).toNat) (ka : Int).toNat))), (5, .int (Int32.ofInt (a + 1)))]) (List.forall_mem_cons.mpr ⟨(List.Mem.tail _ (List.Mem.tail _ (List.Mem.tail _ (List.Mem.head _)))), (List.forall_mem_cons.mpr ⟨(List.Mem.tail _ (List.Mem.tail _ (List.Mem.tail _ (List.Mem.tail _ (List.Mem.head _))))), (List.forall_mem_cons.mpr ⟨(List.Mem.tail _ (List.Mem.head _)), (List.forall_mem_cons.mpr ⟨(List.Mem.tail _ (List.Mem.tail _ (List.Mem.tail _ (List.Mem.tail _ (List.Mem.tail _ (List.Mem.head _)))))), (List.forall_mem_cons.mpr ⟨(List.Mem.tail _ (List.Mem.tail _ (List.Mem.head _))), (List.forall_mem_cons.mpr ⟨(List.Mem.head _), (fun q h => absurd h List.not_mem_nil)⟩)⟩)⟩)⟩)⟩)⟩) ?_
                  refine L177 ((12 - (a + 1) : Int)).toNat t a 1 ka (iC t (204 + (a : Int).toNat) (ka : Int).toNat) (a + 1) I F jjNW (by omega) (by omega) ?_
                  intro s3153 x3154 Is3153 Fs3153 JNW_s3153 hs3153
                  have hta3155 : ∀ a ∈ ([161, 230] : List Nat), ∀ j, j < (bA a).2.2 → (TU T 161 7).2 a j := hta_g hta (by decide)
                  refine d_lift (fun k ws X h => z_inc X (x := ka) (lv' := [(3, .int (Int32.ofInt (ka + 1))), (0, .ref (A 179)), (1, .int (Int32.ofInt a)), (2, .int (Int32.ofInt 1)), (4, .int (Int32.ofInt (iC t (204 + (a : Int).toNat) (ka : Int).toNat))), (5, .int (Int32.ofInt x3154))]) (show cdA 227 278 = some (.iinc 3 1, 3, 0, 0, 0) from rfl) (by decide) (List.Mem.tail _ (List.Mem.tail _ (List.Mem.tail _ (List.Mem.head _)))) (fun _ h => h) h) ?_
                  refine d_lift (fun k ws X h => z_goto X (t := 35) (show cdA 227 281 = some (.goto (-246), 3, 0, 0, 0) from rfl) (by decide) h) ?_
                  refine d_lvs (lv := [(0, .ref (A 179)), (1, .int (Int32.ofInt a)), (2, .int (Int32.ofInt 1)), (3, .int (Int32.ofInt (ka + 1)))]) (List.forall_mem_cons.mpr ⟨(List.Mem.tail _ (List.Mem.head _)), (List.forall_mem_cons.mpr ⟨(List.Mem.tail _ (List.Mem.tail _ (List.Mem.head _))), (List.forall_mem_cons.mpr ⟨(List.Mem.tail _ (List.Mem.tail _ (List.Mem.tail _ (List.Mem.head _)))), (List.forall_mem_cons.mpr ⟨(List.Mem.head _), (fun q h => absurd h List.not_mem_nil)⟩)⟩)⟩)⟩) ?_
                  exact ih _ a 1 (ka + 1) Is3153 Fs3153 JNW_s3153 (by omega) (by omega) kx
                ·
                  refine d_lift (fun k ws X h => z_aload_n X (x := A 179) (show cdA 227 128 = some (.aload_n 0, 1, 0, 0, 0) from rfl) (List.Mem.tail _ (List.Mem.tail _ (List.Mem.tail _ (List.Mem.head _)))) h) ?_
                  refine d_liftS (fun k s X h => s_getR X 179 (show cdA 227 129 = some (.getfield 76, 3, 12, 37, 0) from rfl) (by decide) rfl rfl h) ?_
                  refine d_lift (fun k ws X h => z_load X (x := (iC t (204 + (a : Int).toNat) (ka : Int).toNat)) (show cdA 227 132 = some (.iload 4, 2, 0, 0, 0) from rfl) (List.Mem.tail _ (List.Mem.tail _ (List.Mem.head _))) h) ?_
                  refine d_zald 258 (show cdA 227 134 = some (.baload, 1, 0, 0, 0) from rfl) (by decide) rfl (by omega) (show (iC t (204 + (a : Int).toNat) (ka : Int).toNat) < 128 by omega) (by decide) (hta3001 230 (by decide) _ (show ((iC t (204 + (a : Int).toNat) (ka : Int).toNat)).toNat < 128 by omega)) ?_
                  have b3156 : (0 : Int) ≤ iC t 230 ((iC t (204 + (a : Int).toNat) (ka : Int).toNat)).toNat ∧ iC t 230 ((iC t (204 + (a : Int).toNat) (ka : Int).toNat)).toNat ≤ 1 := I.2 230 _ (show ((iC t (204 + (a : Int).toNat) (ka : Int).toNat)).toNat < 128 by omega)
                  have q3157 : iC t 230 ((iC t (204 + (a : Int).toNat) (ka : Int).toNat)).toNat = iC s 230 ((iC t (204 + (a : Int).toNat) (ka : Int).toNat)).toNat := fm_c F (by decide)
                  refine d_br (by omega) (by omega) (fun k ws X h1 h2 => z_if_eq X (t := 172) (show cdA 227 135 = some (.ifCond .eq 37, 3, 0, 0, 0) from rfl) (by decide) ⟨by omega, by omega⟩ h1 h2) (fun g3158 => ?_) (fun g3158 => ?_)
                  ·
                    refine d_lift (fun k ws X h => z_load_n X (x := a) (show cdA 227 172 = some (.iload_n 1, 1, 0, 0, 0) from rfl) (List.Mem.tail _ (List.Mem.tail _ (List.Mem.tail _ (List.Mem.tail _ (List.Mem.head _))))) h) ?_
                    refine d_lift (fun k ws X h => z_const X (show cdA 227 173 = some (.iconst 1, 1, 0, 0, 0) from rfl) h) ?_
                    refine d_lift (fun k ws X h => z_add X (show cdA 227 174 = some (.iadd, 1, 0, 0, 0) from rfl) h) ?_
                    refine d_lift (fun k ws X h => z_store X (lv' := [(5, .int (Int32.ofInt (a + 1))), (2, .int (Int32.ofInt 1)), (4, .int (Int32.ofInt (iC t (204 + (a : Int).toNat) (ka : Int).toNat))), (0, .ref (A 179)), (1, .int (Int32.ofInt a)), (3, .int (Int32.ofInt ka))]) (show cdA 227 175 = some (.istore 5, 2, 0, 0, 0) from rfl) (by decide) (fun _ h => h) h) ?_
                    refine d_lvs (lv := [(0, .ref (A 179)), (1, .int (Int32.ofInt a)), (2, .int (Int32.ofInt 1)), (3, .int (Int32.ofInt ka)), (4, .int (Int32.ofInt (iC t (204 + (a : Int).toNat) (ka : Int).toNat))), (5, .int (Int32.ofInt (a + 1)))]) (List.forall_mem_cons.mpr ⟨(List.Mem.tail _ (List.Mem.tail _ (List.Mem.tail _ (List.Mem.head _)))), (List.forall_mem_cons.mpr ⟨(List.Mem.tail _ (List.Mem.tail _ (List.Mem.tail _ (List.Mem.tail _ (List.Mem.head _))))), (List.forall_mem_cons.mpr ⟨(List.Mem.tail _ (List.Mem.head _)), (List.forall_mem_cons.mpr ⟨(List.Mem.tail _ (List.Mem.tail _ (List.Mem.tail _ (List.Mem.tail _ (List.Mem.tail _ (List.Mem.head _)))))), (List.forall_mem_cons.mpr ⟨(List.Mem.tail _ (List.Mem.tail _ (List.Mem.head _))), (List.forall_mem_cons.mpr ⟨(List.Mem.head _), (fun q h => absurd h List.not_mem_nil)⟩)⟩)⟩)⟩)⟩)⟩) ?_
                    refine L177 ((12 - (a + 1) : Int)).toNat t a 1 ka (iC t (204 + (a : Int).toNat) (ka : Int).toNat) (a + 1) I F jjNW (by omega) (by omega) ?_
                    intro s3159 x3160 Is3159 Fs3159 JNW_s3159 hs3159
                    have hta3161 : ∀ a ∈ ([161, 230] : List Nat), ∀ j, j < (bA a).2.2 → (TU T 161 7).2 a j := hta_g hta (by decide)
                    refine d_lift (fun k ws X h => z_inc X (x := ka) (lv' := [(3, .int (Int32.ofInt (ka + 1))), (0, .ref (A 179)), (1, .int (Int32.ofInt a)), (2, .int (Int32.ofInt 1)), (4, .int (Int32.ofInt (iC t (204 + (a : Int).toNat) (ka : Int).toNat))), (5, .int (Int32.ofInt x3160))]) (show cdA 227 278 = some (.iinc 3 1, 3, 0, 0, 0) from rfl) (by decide) (List.Mem.tail _ (List.Mem.tail _ (List.Mem.tail _ (List.Mem.head _)))) (fun _ h => h) h) ?_
                    refine d_lift (fun k ws X h => z_goto X (t := 35) (show cdA 227 281 = some (.goto (-246), 3, 0, 0, 0) from rfl) (by decide) h) ?_
                    refine d_lvs (lv := [(0, .ref (A 179)), (1, .int (Int32.ofInt a)), (2, .int (Int32.ofInt 1)), (3, .int (Int32.ofInt (ka + 1)))]) (List.forall_mem_cons.mpr ⟨(List.Mem.tail _ (List.Mem.head _)), (List.forall_mem_cons.mpr ⟨(List.Mem.tail _ (List.Mem.tail _ (List.Mem.head _))), (List.forall_mem_cons.mpr ⟨(List.Mem.tail _ (List.Mem.tail _ (List.Mem.tail _ (List.Mem.head _)))), (List.forall_mem_cons.mpr ⟨(List.Mem.head _), (fun q h => absurd h List.not_mem_nil)⟩)⟩)⟩)⟩) ?_
                    exact ih _ a 1 (ka + 1) Is3159 Fs3159 JNW_s3159 (by omega) (by omega) kx
                  ·
                    refine d_lift (fun k ws X h => z_aload_n X (x := A 179) (show cdA 227 138 = some (.aload_n 0, 1, 0, 0, 0) from rfl) (List.Mem.tail _ (List.Mem.tail _ (List.Mem.tail _ (List.Mem.head _)))) h) ?_
                    refine d_liftS (fun k s X h => s_getR X 179 (show cdA 227 139 = some (.getfield 64, 3, 12, 33, 0) from rfl) (by decide) rfl rfl h) ?_
                    refine d_lift (fun k ws X h => z_load_n X (x := a) (show cdA 227 142 = some (.iload_n 1, 1, 0, 0, 0) from rfl) (List.Mem.tail _ (List.Mem.tail _ (List.Mem.tail _ (List.Mem.tail _ (List.Mem.head _))))) h) ?_
                    refine d_liftS (fun k s X h => z_aald X rw_230 (show cdA 227 143 = some (.aaload, 1, 0, 0, 0) from rfl) (by omega) (show a < 12 by omega) (by decide) h) ?_
                    refine d_lift (fun k ws X h => z_load_n X (x := ka) (show cdA 227 144 = some (.iload_n 3, 1, 0, 0, 0) from rfl) (List.Mem.tail _ (List.Mem.tail _ (List.Mem.tail _ (List.Mem.tail _ (List.Mem.tail _ (List.Mem.head _)))))) h) ?_
                    refine d_lift (fun k ws X h => z_const X (show cdA 227 145 = some (.iconst 1, 1, 0, 0, 0) from rfl) h) ?_
                    refine d_lift (fun k ws X h => z_sub X (show cdA 227 146 = some (.isub, 1, 0, 0, 0) from rfl) h) ?_
                    refine d_ald2 rw_230 (show cdA 227 147 = some (.iaload, 1, 0, 0, 0) from rfl) (show (a : Int).toNat < 12 by omega) (by omega) (show (ka - 1) < 24 by omega) (by decide) (Or.inr ((htn _ (show (a : Int).toNat < 12 by omega) (show (((a : Int).toNat : Nat) : Int) < iI s 90 by omega)).2.2.2 _ (show ((((ka - 1) : Int).toNat : Nat) : Int) < iC s 202 (a : Int).toNat by omega))) ?_
                    have b3162 : (0 : Int) ≤ (iC t (204 + (a : Int).toNat) ((ka - 1) : Int).toNat) ∧ (iC t (204 + (a : Int).toNat) ((ka - 1) : Int).toNat) ≤ 127 := rw_bd rw_230 I (show (a : Int).toNat < 12 by omega) (show ((ka - 1) : Int).toNat < 24 by omega)
                    refine d_lift (fun k ws X h => z_load X (x := (iC t (204 + (a : Int).toNat) (ka : Int).toNat)) (show cdA 227 148 = some (.iload 4, 2, 0, 0, 0) from rfl) (List.Mem.tail _ (List.Mem.tail _ (List.Mem.head _))) h) ?_
                    refine d_callT (As := [.int (Int32.ofInt (iC t (204 + (a : Int).toNat) ((ka - 1) : Int).toNat)), .int (Int32.ofInt (iC t (204 + (a : Int).toNat) (ka : Int).toNat))]) (st := []) (show cdA 227 150 = some (.invokestatic 312, 3, 225, 1, 0) from rfl) rfl (d_stepOf (T := TU T 161 7) G I (by omega) (by omega) (fun q h => hti q ((by decide : ∀ q ∈ ([] : List Nat), q ∈ ([90, 89] : List Nat)) q h)) (fun a h => hta3001 a ((by decide : ∀ q ∈ ([] : List Nat), q ∈ ([161, 230] : List Nat)) a h))) ⟨rfl, rfl⟩ ⟨(show 6 + 1 ≤ 8 by omega), (show 8 + (mNL (miB 225) + 11) + 100 ≤ 143 by simp only [show mNL (miB 225) = 2 from rfl]; omega)⟩ (Nat.le_of_ble_eq_true rfl) (by decide) (by decide) (fun ee s3163 hq => ?_) (fun vv s3163 hq => ?_)
                    · obtain ⟨Is3163, Fs3163, e3164, hv, hrs3163, hps3163⟩ := hq; cases hv
                    obtain ⟨Is3163, Fs3163, e3164, hv, hrs3163, hps3163⟩ := hq
                    cases hv
                    have Gs3163 := fm_ts F Fs3163 (by decide) (by decide)
                    have JNW_s3163 : NW s3163 := NW_fm Fs3163 (by decide) jjNW
                    show DS l s0 D A dT 227 (rmN 227) [] [161] (TU T 161 7) Q (TU T 161 7) 153 [(5, .int (Int32.ofInt (iC t 230 ((iC t (204 + (a : Int).toNat) ((ka - 1) : Int).toNat)).toNat))), (2, .int (Int32.ofInt 1)), (4, .int (Int32.ofInt (iC t (204 + (a : Int).toNat) (ka : Int).toNat))), (0, .ref (A 179)), (1, .int (Int32.ofInt a)), (3, .int (Int32.ofInt ka))] [.int (Int32.ofInt e3164)] s3163
                    refine d_lift (fun k ws X h => z_const X (show cdA 227 153 = some (.iconst 3, 1, 0, 0, 0) from rfl) h) ?_
                    refine d_br (by omega) (by omega) (fun k ws X h1 h2 => z_icmp_le X (t := 172) (show cdA 227 154 = some (.if_icmp .le 18, 3, 5, 0, 0) from rfl) (by decide) ⟨by omega, by omega⟩ ⟨by omega, by omega⟩ h1 h2) (fun g3165 => ?_) (fun g3165 => ?_)
                    ·
                      refine d_lift (fun k ws X h => z_load_n X (x := a) (show cdA 227 172 = some (.iload_n 1, 1, 0, 0, 0) from rfl) (List.Mem.tail _ (List.Mem.tail _ (List.Mem.tail _ (List.Mem.tail _ (List.Mem.head _))))) h) ?_
                      refine d_lift (fun k ws X h => z_const X (show cdA 227 173 = some (.iconst 1, 1, 0, 0, 0) from rfl) h) ?_
                      refine d_lift (fun k ws X h => z_add X (show cdA 227 174 = some (.iadd, 1, 0, 0, 0) from rfl) h) ?_
                      refine d_lift (fun k ws X h => z_store X (lv' := [(5, .int (Int32.ofInt (a + 1))), (2, .int (Int32.ofInt 1)), (4, .int (Int32.ofInt (iC t (204 + (a : Int).toNat) (ka : Int).toNat))), (0, .ref (A 179)), (1, .int (Int32.ofInt a)), (3, .int (Int32.ofInt ka))]) (show cdA 227 175 = some (.istore 5, 2, 0, 0, 0) from rfl) (by decide) (fun _ h => h) h) ?_
                      refine d_lvs (lv := [(0, .ref (A 179)), (1, .int (Int32.ofInt a)), (2, .int (Int32.ofInt 1)), (3, .int (Int32.ofInt ka)), (4, .int (Int32.ofInt (iC t (204 + (a : Int).toNat) (ka : Int).toNat))), (5, .int (Int32.ofInt (a + 1)))]) (List.forall_mem_cons.mpr ⟨(List.Mem.tail _ (List.Mem.tail _ (List.Mem.tail _ (List.Mem.head _)))), (List.forall_mem_cons.mpr ⟨(List.Mem.tail _ (List.Mem.tail _ (List.Mem.tail _ (List.Mem.tail _ (List.Mem.head _))))), (List.forall_mem_cons.mpr ⟨(List.Mem.tail _ (List.Mem.head _)), (List.forall_mem_cons.mpr ⟨(List.Mem.tail _ (List.Mem.tail _ (List.Mem.tail _ (List.Mem.tail _ (List.Mem.tail _ (List.Mem.head _)))))), (List.forall_mem_cons.mpr ⟨(List.Mem.tail _ (List.Mem.tail _ (List.Mem.head _))), (List.forall_mem_cons.mpr ⟨(List.Mem.head _), (fun q h => absurd h List.not_mem_nil)⟩)⟩)⟩)⟩)⟩)⟩) ?_
                      refine L177 ((12 - (a + 1) : Int)).toNat s3163 a 1 ka (iC t (204 + (a : Int).toNat) (ka : Int).toNat) (a + 1) Is3163 Gs3163 JNW_s3163 (by omega) (by omega) ?_
                      intro s3166 x3167 Is3166 Fs3166 JNW_s3166 hs3166
                      have hta3168 : ∀ a ∈ ([161, 230] : List Nat), ∀ j, j < (bA a).2.2 → (TU T 161 7).2 a j := hta_g hta (by decide)
                      refine d_lift (fun k ws X h => z_inc X (x := ka) (lv' := [(3, .int (Int32.ofInt (ka + 1))), (0, .ref (A 179)), (1, .int (Int32.ofInt a)), (2, .int (Int32.ofInt 1)), (4, .int (Int32.ofInt (iC t (204 + (a : Int).toNat) (ka : Int).toNat))), (5, .int (Int32.ofInt x3167))]) (show cdA 227 278 = some (.iinc 3 1, 3, 0, 0, 0) from rfl) (by decide) (List.Mem.tail _ (List.Mem.tail _ (List.Mem.tail _ (List.Mem.head _)))) (fun _ h => h) h) ?_
                      refine d_lift (fun k ws X h => z_goto X (t := 35) (show cdA 227 281 = some (.goto (-246), 3, 0, 0, 0) from rfl) (by decide) h) ?_
                      refine d_lvs (lv := [(0, .ref (A 179)), (1, .int (Int32.ofInt a)), (2, .int (Int32.ofInt 1)), (3, .int (Int32.ofInt (ka + 1)))]) (List.forall_mem_cons.mpr ⟨(List.Mem.tail _ (List.Mem.head _)), (List.forall_mem_cons.mpr ⟨(List.Mem.tail _ (List.Mem.tail _ (List.Mem.head _))), (List.forall_mem_cons.mpr ⟨(List.Mem.tail _ (List.Mem.tail _ (List.Mem.tail _ (List.Mem.head _)))), (List.forall_mem_cons.mpr ⟨(List.Mem.head _), (fun q h => absurd h List.not_mem_nil)⟩)⟩)⟩)⟩) ?_
                      exact ih _ a 1 (ka + 1) Is3166 Fs3166 JNW_s3166 (by omega) (by omega) kx
                    ·
                      refine d_lift (fun k ws X h => z_aload_n X (x := A 179) (show cdA 227 157 = some (.aload_n 0, 1, 0, 0, 0) from rfl) (List.Mem.tail _ (List.Mem.tail _ (List.Mem.tail _ (List.Mem.head _)))) h) ?_
                      refine d_liftS (fun k s X h => s_getR X 179 (show cdA 227 158 = some (.getfield 32, 3, 12, 21, 0) from rfl) (by decide) rfl rfl h) ?_
                      refine d_lift (fun k ws X h => z_const X (show cdA 227 161 = some (.iconst 3, 1, 0, 0, 0) from rfl) h) ?_
                      refine d_lift (fun k ws X h => w_dup2_11 X.1 (ax_d X (show cdA 227 162 = some (.dup2, 1, 0, 0, 0) from rfl)) rfl rfl h) ?_
                      refine d_ald 184 (show cdA 227 163 = some (.iaload, 1, 0, 0, 0) from rfl) (by decide) rfl (by omega) (show 3 < 7 by omega) (by decide) (hta3001 161 (by decide) _ (show (3 : Int).toNat < 7 by omega)) ?_
                      have b3169 : ((-2147483648) : Int) ≤ iC s3163 161 (3 : Int).toNat ∧ iC s3163 161 (3 : Int).toNat ≤ 2147483647 := Is3163.2 161 _ (show (3 : Int).toNat < 7 by omega)
                      refine d_lift (fun k ws X h => z_aload_n X (x := A 179) (show cdA 227 164 = some (.aload_n 0, 1, 0, 0, 0) from rfl) (List.Mem.tail _ (List.Mem.tail _ (List.Mem.tail _ (List.Mem.head _)))) h) ?_
                      refine d_liftS (fun k s X h => s_getR X 179 (show cdA 227 165 = some (.getfield 61, 3, 12, 32, 0) from rfl) (by decide) rfl rfl h) ?_
                      refine d_lift (fun k ws X h => z_load_n X (x := a) (show cdA 227 168 = some (.iload_n 1, 1, 0, 0, 0) from rfl) (List.Mem.tail _ (List.Mem.tail _ (List.Mem.tail _ (List.Mem.tail _ (List.Mem.head _))))) h) ?_
                      refine d_ald 229 (show cdA 227 169 = some (.iaload, 1, 0, 0, 0) from rfl) (by decide) rfl (by omega) (show a < 12 by omega) (by decide) (Or.inr ((htn _ (show (a : Int).toNat < 12 by omega) (show (((a : Int).toNat : Nat) : Int) < iI s 90 by omega)).2.1)) ?_
                      have b3170 : (0 : Int) ≤ iC s3163 203 (a).toNat ∧ iC s3163 203 (a).toNat ≤ 50 := Is3163.2 203 _ (show (a).toNat < 12 by omega)
                      have q3171 : iC s3163 203 (a).toNat = iC s 203 (a).toNat := fm_c Gs3163 (by decide)
                      refine d_lift (fun k ws X h => z_add X (show cdA 227 170 = some (.iadd, 1, 0, 0, 0) from rfl) h) ?_
                      refine d_any (fun y3172 hy3172 => ?_)
                      refine d_ast 184 (show cdA 227 171 = some (.iastore, 1, 0, 0, 0) from rfl) (by decide) rfl (by omega) (show 3 < 7 by omega) (by decide) (show 161 ∈ _ by decide) (show ((-2147483648) : Int) ≤ y3172 ∧ y3172 ≤ 2147483647 by omega) ⟨by omega, by omega⟩ ?_
                      refine d_mono (T' := TU T 161 7) (fun _ h => h) (fun _ _ h => Or.inr h) ?_
                      obtain ⟨s3173, hs3173⟩ : ∃ x0, x0 = uC s3163 161 (3 : Int).toNat (Int32.ofInt y3172) := ⟨_, rfl⟩
                      rw [← hs3173]
                      have Is3173 : Bd s3173 := by rw [hs3173]; exact bd_C Is3163 (show ((-2147483648) : Int) ≤ y3172 ∧ y3172 ≤ 2147483647 by omega) ⟨by omega, by omega⟩
                      have Fs3173 := fm_C (i := (3 : Int).toNat) (x := Int32.ofInt y3172) Gs3163 (show 161 ∈ _ by decide)
                      rw [← hs3173] at Fs3173
                      have fs3173 : Fm [] [161] s3163 s3173 := by rw [hs3173]; exact fm_C (fm_rf _ _ _) (show 161 ∈ _ by decide)
                      have JNW_s3173 : NW s3173 := NW_fm fs3173 (by decide) JNW_s3163
                      refine d_lift (fun k ws X h => z_load_n X (x := a) (show cdA 227 172 = some (.iload_n 1, 1, 0, 0, 0) from rfl) (List.Mem.tail _ (List.Mem.tail _ (List.Mem.tail _ (List.Mem.tail _ (List.Mem.head _))))) h) ?_
                      refine d_lift (fun k ws X h => z_const X (show cdA 227 173 = some (.iconst 1, 1, 0, 0, 0) from rfl) h) ?_
                      refine d_lift (fun k ws X h => z_add X (show cdA 227 174 = some (.iadd, 1, 0, 0, 0) from rfl) h) ?_
                      refine d_lift (fun k ws X h => z_store X (lv' := [(5, .int (Int32.ofInt (a + 1))), (2, .int (Int32.ofInt 1)), (4, .int (Int32.ofInt (iC t (204 + (a : Int).toNat) (ka : Int).toNat))), (0, .ref (A 179)), (1, .int (Int32.ofInt a)), (3, .int (Int32.ofInt ka))]) (show cdA 227 175 = some (.istore 5, 2, 0, 0, 0) from rfl) (by decide) (fun _ h => h) h) ?_
                      refine d_lvs (lv := [(0, .ref (A 179)), (1, .int (Int32.ofInt a)), (2, .int (Int32.ofInt 1)), (3, .int (Int32.ofInt ka)), (4, .int (Int32.ofInt (iC t (204 + (a : Int).toNat) (ka : Int).toNat))), (5, .int (Int32.ofInt (a + 1)))]) (List.forall_mem_cons.mpr ⟨(List.Mem.tail _ (List.Mem.tail _ (List.Mem.tail _ (List.Mem.head _)))), (List.forall_mem_cons.mpr ⟨(List.Mem.tail _ (List.Mem.tail _ (List.Mem.tail _ (List.Mem.tail _ (List.Mem.head _))))), (List.forall_mem_cons.mpr ⟨(List.Mem.tail _ (List.Mem.head _)), (List.forall_mem_cons.mpr ⟨(List.Mem.tail _ (List.Mem.tail _ (List.Mem.tail _ (List.Mem.tail _ (List.Mem.tail _ (List.Mem.head _)))))), (List.forall_mem_cons.mpr ⟨(List.Mem.tail _ (List.Mem.tail _ (List.Mem.head _))), (List.forall_mem_cons.mpr ⟨(List.Mem.head _), (fun q h => absurd h List.not_mem_nil)⟩)⟩)⟩)⟩)⟩)⟩) ?_
                      refine L177 ((12 - (a + 1) : Int)).toNat s3173 a 1 ka (iC t (204 + (a : Int).toNat) (ka : Int).toNat) (a + 1) Is3173 Fs3173 JNW_s3173 (by omega) (by omega) ?_
                      intro s3174 x3175 Is3174 Fs3174 JNW_s3174 hs3174
                      have hta3176 : ∀ a ∈ ([161, 230] : List Nat), ∀ j, j < (bA a).2.2 → (TU T 161 7).2 a j := hta_g hta (by decide)
                      refine d_lift (fun k ws X h => z_inc X (x := ka) (lv' := [(3, .int (Int32.ofInt (ka + 1))), (0, .ref (A 179)), (1, .int (Int32.ofInt a)), (2, .int (Int32.ofInt 1)), (4, .int (Int32.ofInt (iC t (204 + (a : Int).toNat) (ka : Int).toNat))), (5, .int (Int32.ofInt x3175))]) (show cdA 227 278 = some (.iinc 3 1, 3, 0, 0, 0) from rfl) (by decide) (List.Mem.tail _ (List.Mem.tail _ (List.Mem.tail _ (List.Mem.head _)))) (fun _ h => h) h) ?_
                      refine d_lift (fun k ws X h => z_goto X (t := 35) (show cdA 227 281 = some (.goto (-246), 3, 0, 0, 0) from rfl) (by decide) h) ?_
                      refine d_lvs (lv := [(0, .ref (A 179)), (1, .int (Int32.ofInt a)), (2, .int (Int32.ofInt 1)), (3, .int (Int32.ofInt (ka + 1)))]) (List.forall_mem_cons.mpr ⟨(List.Mem.tail _ (List.Mem.head _)), (List.forall_mem_cons.mpr ⟨(List.Mem.tail _ (List.Mem.tail _ (List.Mem.head _))), (List.forall_mem_cons.mpr ⟨(List.Mem.tail _ (List.Mem.tail _ (List.Mem.tail _ (List.Mem.head _)))), (List.forall_mem_cons.mpr ⟨(List.Mem.head _), (fun q h => absurd h List.not_mem_nil)⟩)⟩)⟩)⟩) ?_
                      exact ih _ a 1 (ka + 1) Is3174 Fs3174 JNW_s3174 (by omega) (by omega) kx
              ·
                refine d_lift (fun k ws X h => z_aload_n X (x := A 179) (show cdA 227 108 = some (.aload_n 0, 1, 0, 0, 0) from rfl) (List.Mem.tail _ (List.Mem.tail _ (List.Mem.tail _ (List.Mem.head _)))) h) ?_
                refine d_liftS (fun k s X h => s_getR X 179 (show cdA 227 109 = some (.getfield 32, 3, 12, 21, 0) from rfl) (by decide) rfl rfl h) ?_
                refine d_lift (fun k ws X h => z_const X (show cdA 227 112 = some (.iconst 2, 1, 0, 0, 0) from rfl) h) ?_
                refine d_lift (fun k ws X h => w_dup2_11 X.1 (ax_d X (show cdA 227 113 = some (.dup2, 1, 0, 0, 0) from rfl)) rfl rfl h) ?_
                refine d_ald 184 (show cdA 227 114 = some (.iaload, 1, 0, 0, 0) from rfl) (by decide) rfl (by omega) (show 2 < 7 by omega) (by decide) (hta3001 161 (by decide) _ (show (2 : Int).toNat < 7 by omega)) ?_
                have b3177 : ((-2147483648) : Int) ≤ iC t 161 (2 : Int).toNat ∧ iC t 161 (2 : Int).toNat ≤ 2147483647 := I.2 161 _ (show (2 : Int).toNat < 7 by omega)
                refine d_lift (fun k ws X h => z_aload_n X (x := A 179) (show cdA 227 115 = some (.aload_n 0, 1, 0, 0, 0) from rfl) (List.Mem.tail _ (List.Mem.tail _ (List.Mem.tail _ (List.Mem.head _)))) h) ?_
                refine d_liftS (fun k s X h => s_getR X 179 (show cdA 227 116 = some (.getfield 61, 3, 12, 32, 0) from rfl) (by decide) rfl rfl h) ?_
                refine d_lift (fun k ws X h => z_load_n X (x := a) (show cdA 227 119 = some (.iload_n 1, 1, 0, 0, 0) from rfl) (List.Mem.tail _ (List.Mem.tail _ (List.Mem.tail _ (List.Mem.tail _ (List.Mem.head _))))) h) ?_
                refine d_ald 229 (show cdA 227 120 = some (.iaload, 1, 0, 0, 0) from rfl) (by decide) rfl (by omega) (show a < 12 by omega) (by decide) (Or.inr ((htn _ (show (a : Int).toNat < 12 by omega) (show (((a : Int).toNat : Nat) : Int) < iI s 90 by omega)).2.1)) ?_
                have b3178 : (0 : Int) ≤ iC t 203 (a).toNat ∧ iC t 203 (a).toNat ≤ 50 := I.2 203 _ (show (a).toNat < 12 by omega)
                have q3179 : iC t 203 (a).toNat = iC s 203 (a).toNat := fm_c F (by decide)
                refine d_lift (fun k ws X h => z_add X (show cdA 227 121 = some (.iadd, 1, 0, 0, 0) from rfl) h) ?_
                refine d_any (fun y3180 hy3180 => ?_)
                refine d_ast 184 (show cdA 227 122 = some (.iastore, 1, 0, 0, 0) from rfl) (by decide) rfl (by omega) (show 2 < 7 by omega) (by decide) (show 161 ∈ _ by decide) (show ((-2147483648) : Int) ≤ y3180 ∧ y3180 ≤ 2147483647 by omega) ⟨by omega, by omega⟩ ?_
                refine d_mono (T' := TU T 161 7) (fun _ h => h) (fun _ _ h => Or.inr h) ?_
                obtain ⟨s3181, hs3181⟩ : ∃ x0, x0 = uC t 161 (2 : Int).toNat (Int32.ofInt y3180) := ⟨_, rfl⟩
                rw [← hs3181]
                have Is3181 : Bd s3181 := by rw [hs3181]; exact bd_C I (show ((-2147483648) : Int) ≤ y3180 ∧ y3180 ≤ 2147483647 by omega) ⟨by omega, by omega⟩
                have Fs3181 := fm_C (i := (2 : Int).toNat) (x := Int32.ofInt y3180) F (show 161 ∈ _ by decide)
                rw [← hs3181] at Fs3181
                have fs3181 : Fm [] [161] t s3181 := by rw [hs3181]; exact fm_C (fm_rf _ _ _) (show 161 ∈ _ by decide)
                have JNW_s3181 : NW s3181 := NW_fm fs3181 (by decide) jjNW
                refine d_lift (fun k ws X h => z_load X (x := (iC t 230 ((iC t (204 + (a : Int).toNat) ((ka - 1) : Int).toNat)).toNat)) (show cdA 227 123 = some (.iload 5, 2, 0, 0, 0) from rfl) (List.Mem.head _) h) ?_
                refine d_br (by omega) (by omega) (fun k ws X h1 h2 => z_if_eq X (t := 172) (show cdA 227 125 = some (.ifCond .eq 47, 3, 0, 0, 0) from rfl) (by decide) ⟨by omega, by omega⟩ h1 h2) (fun g3182 => ?_) (fun g3182 => ?_)
                ·
                  refine d_lift (fun k ws X h => z_load_n X (x := a) (show cdA 227 172 = some (.iload_n 1, 1, 0, 0, 0) from rfl) (List.Mem.tail _ (List.Mem.tail _ (List.Mem.tail _ (List.Mem.tail _ (List.Mem.head _))))) h) ?_
                  refine d_lift (fun k ws X h => z_const X (show cdA 227 173 = some (.iconst 1, 1, 0, 0, 0) from rfl) h) ?_
                  refine d_lift (fun k ws X h => z_add X (show cdA 227 174 = some (.iadd, 1, 0, 0, 0) from rfl) h) ?_
                  refine d_lift (fun k ws X h => z_store X (lv' := [(5, .int (Int32.ofInt (a + 1))), (2, .int (Int32.ofInt 1)), (4, .int (Int32.ofInt (iC t (204 + (a : Int).toNat) (ka : Int).toNat))), (0, .ref (A 179)), (1, .int (Int32.ofInt a)), (3, .int (Int32.ofInt ka))]) (show cdA 227 175 = some (.istore 5, 2, 0, 0, 0) from rfl) (by decide) (fun _ h => h) h) ?_
                  refine d_lvs (lv := [(0, .ref (A 179)), (1, .int (Int32.ofInt a)), (2, .int (Int32.ofInt 1)), (3, .int (Int32.ofInt ka)), (4, .int (Int32.ofInt (iC t (204 + (a : Int).toNat) (ka : Int).toNat))), (5, .int (Int32.ofInt (a + 1)))]) (List.forall_mem_cons.mpr ⟨(List.Mem.tail _ (List.Mem.tail _ (List.Mem.tail _ (List.Mem.head _)))), (List.forall_mem_cons.mpr ⟨(List.Mem.tail _ (List.Mem.tail _ (List.Mem.tail _ (List.Mem.tail _ (List.Mem.head _))))), (List.forall_mem_cons.mpr ⟨(List.Mem.tail _ (List.Mem.head _)), (List.forall_mem_cons.mpr ⟨(List.Mem.tail _ (List.Mem.tail _ (List.Mem.tail _ (List.Mem.tail _ (List.Mem.tail _ (List.Mem.head _)))))), (List.forall_mem_cons.mpr ⟨(List.Mem.tail _ (List.Mem.tail _ (List.Mem.head _))), (List.forall_mem_cons.mpr ⟨(List.Mem.head _), (fun q h => absurd h List.not_mem_nil)⟩)⟩)⟩)⟩)⟩)⟩) ?_
                  refine L177 ((12 - (a + 1) : Int)).toNat s3181 a 1 ka (iC t (204 + (a : Int).toNat) (ka : Int).toNat) (a + 1) Is3181 Fs3181 JNW_s3181 (by omega) (by omega) ?_
                  intro s3183 x3184 Is3183 Fs3183 JNW_s3183 hs3183
                  have hta3185 : ∀ a ∈ ([161, 230] : List Nat), ∀ j, j < (bA a).2.2 → (TU T 161 7).2 a j := hta_g hta (by decide)
                  refine d_lift (fun k ws X h => z_inc X (x := ka) (lv' := [(3, .int (Int32.ofInt (ka + 1))), (0, .ref (A 179)), (1, .int (Int32.ofInt a)), (2, .int (Int32.ofInt 1)), (4, .int (Int32.ofInt (iC t (204 + (a : Int).toNat) (ka : Int).toNat))), (5, .int (Int32.ofInt x3184))]) (show cdA 227 278 = some (.iinc 3 1, 3, 0, 0, 0) from rfl) (by decide) (List.Mem.tail _ (List.Mem.tail _ (List.Mem.tail _ (List.Mem.head _)))) (fun _ h => h) h) ?_
                  refine d_lift (fun k ws X h => z_goto X (t := 35) (show cdA 227 281 = some (.goto (-246), 3, 0, 0, 0) from rfl) (by decide) h) ?_
                  refine d_lvs (lv := [(0, .ref (A 179)), (1, .int (Int32.ofInt a)), (2, .int (Int32.ofInt 1)), (3, .int (Int32.ofInt (ka + 1)))]) (List.forall_mem_cons.mpr ⟨(List.Mem.tail _ (List.Mem.head _)), (List.forall_mem_cons.mpr ⟨(List.Mem.tail _ (List.Mem.tail _ (List.Mem.head _))), (List.forall_mem_cons.mpr ⟨(List.Mem.tail _ (List.Mem.tail _ (List.Mem.tail _ (List.Mem.head _)))), (List.forall_mem_cons.mpr ⟨(List.Mem.head _), (fun q h => absurd h List.not_mem_nil)⟩)⟩)⟩)⟩) ?_
                  exact ih _ a 1 (ka + 1) Is3183 Fs3183 JNW_s3183 (by omega) (by omega) kx
                ·
                  refine d_lift (fun k ws X h => z_aload_n X (x := A 179) (show cdA 227 128 = some (.aload_n 0, 1, 0, 0, 0) from rfl) (List.Mem.tail _ (List.Mem.tail _ (List.Mem.tail _ (List.Mem.head _)))) h) ?_
                  refine d_liftS (fun k s X h => s_getR X 179 (show cdA 227 129 = some (.getfield 76, 3, 12, 37, 0) from rfl) (by decide) rfl rfl h) ?_
                  refine d_lift (fun k ws X h => z_load X (x := (iC t (204 + (a : Int).toNat) (ka : Int).toNat)) (show cdA 227 132 = some (.iload 4, 2, 0, 0, 0) from rfl) (List.Mem.tail _ (List.Mem.tail _ (List.Mem.head _))) h) ?_
                  refine d_zald 258 (show cdA 227 134 = some (.baload, 1, 0, 0, 0) from rfl) (by decide) rfl (by omega) (show (iC t (204 + (a : Int).toNat) (ka : Int).toNat) < 128 by omega) (by decide) (hta3001 230 (by decide) _ (show ((iC t (204 + (a : Int).toNat) (ka : Int).toNat)).toNat < 128 by omega)) ?_
                  have b3186 : (0 : Int) ≤ iC s3181 230 ((iC t (204 + (a : Int).toNat) (ka : Int).toNat)).toNat ∧ iC s3181 230 ((iC t (204 + (a : Int).toNat) (ka : Int).toNat)).toNat ≤ 1 := Is3181.2 230 _ (show ((iC t (204 + (a : Int).toNat) (ka : Int).toNat)).toNat < 128 by omega)
                  have q3187 : iC s3181 230 ((iC t (204 + (a : Int).toNat) (ka : Int).toNat)).toNat = iC s 230 ((iC t (204 + (a : Int).toNat) (ka : Int).toNat)).toNat := fm_c Fs3181 (by decide)
                  refine d_br (by omega) (by omega) (fun k ws X h1 h2 => z_if_eq X (t := 172) (show cdA 227 135 = some (.ifCond .eq 37, 3, 0, 0, 0) from rfl) (by decide) ⟨by omega, by omega⟩ h1 h2) (fun g3188 => ?_) (fun g3188 => ?_)
                  ·
                    refine d_lift (fun k ws X h => z_load_n X (x := a) (show cdA 227 172 = some (.iload_n 1, 1, 0, 0, 0) from rfl) (List.Mem.tail _ (List.Mem.tail _ (List.Mem.tail _ (List.Mem.tail _ (List.Mem.head _))))) h) ?_
                    refine d_lift (fun k ws X h => z_const X (show cdA 227 173 = some (.iconst 1, 1, 0, 0, 0) from rfl) h) ?_
                    refine d_lift (fun k ws X h => z_add X (show cdA 227 174 = some (.iadd, 1, 0, 0, 0) from rfl) h) ?_
                    refine d_lift (fun k ws X h => z_store X (lv' := [(5, .int (Int32.ofInt (a + 1))), (2, .int (Int32.ofInt 1)), (4, .int (Int32.ofInt (iC t (204 + (a : Int).toNat) (ka : Int).toNat))), (0, .ref (A 179)), (1, .int (Int32.ofInt a)), (3, .int (Int32.ofInt ka))]) (show cdA 227 175 = some (.istore 5, 2, 0, 0, 0) from rfl) (by decide) (fun _ h => h) h) ?_
                    refine d_lvs (lv := [(0, .ref (A 179)), (1, .int (Int32.ofInt a)), (2, .int (Int32.ofInt 1)), (3, .int (Int32.ofInt ka)), (4, .int (Int32.ofInt (iC t (204 + (a : Int).toNat) (ka : Int).toNat))), (5, .int (Int32.ofInt (a + 1)))]) (List.forall_mem_cons.mpr ⟨(List.Mem.tail _ (List.Mem.tail _ (List.Mem.tail _ (List.Mem.head _)))), (List.forall_mem_cons.mpr ⟨(List.Mem.tail _ (List.Mem.tail _ (List.Mem.tail _ (List.Mem.tail _ (List.Mem.head _))))), (List.forall_mem_cons.mpr ⟨(List.Mem.tail _ (List.Mem.head _)), (List.forall_mem_cons.mpr ⟨(List.Mem.tail _ (List.Mem.tail _ (List.Mem.tail _ (List.Mem.tail _ (List.Mem.tail _ (List.Mem.head _)))))), (List.forall_mem_cons.mpr ⟨(List.Mem.tail _ (List.Mem.tail _ (List.Mem.head _))), (List.forall_mem_cons.mpr ⟨(List.Mem.head _), (fun q h => absurd h List.not_mem_nil)⟩)⟩)⟩)⟩)⟩)⟩) ?_
                    refine L177 ((12 - (a + 1) : Int)).toNat s3181 a 1 ka (iC t (204 + (a : Int).toNat) (ka : Int).toNat) (a + 1) Is3181 Fs3181 JNW_s3181 (by omega) (by omega) ?_
                    intro s3189 x3190 Is3189 Fs3189 JNW_s3189 hs3189
                    have hta3191 : ∀ a ∈ ([161, 230] : List Nat), ∀ j, j < (bA a).2.2 → (TU T 161 7).2 a j := hta_g hta (by decide)
                    refine d_lift (fun k ws X h => z_inc X (x := ka) (lv' := [(3, .int (Int32.ofInt (ka + 1))), (0, .ref (A 179)), (1, .int (Int32.ofInt a)), (2, .int (Int32.ofInt 1)), (4, .int (Int32.ofInt (iC t (204 + (a : Int).toNat) (ka : Int).toNat))), (5, .int (Int32.ofInt x3190))]) (show cdA 227 278 = some (.iinc 3 1, 3, 0, 0, 0) from rfl) (by decide) (List.Mem.tail _ (List.Mem.tail _ (List.Mem.tail _ (List.Mem.head _)))) (fun _ h => h) h) ?_
                    refine d_lift (fun k ws X h => z_goto X (t := 35) (show cdA 227 281 = some (.goto (-246), 3, 0, 0, 0) from rfl) (by decide) h) ?_
                    refine d_lvs (lv := [(0, .ref (A 179)), (1, .int (Int32.ofInt a)), (2, .int (Int32.ofInt 1)), (3, .int (Int32.ofInt (ka + 1)))]) (List.forall_mem_cons.mpr ⟨(List.Mem.tail _ (List.Mem.head _)), (List.forall_mem_cons.mpr ⟨(List.Mem.tail _ (List.Mem.tail _ (List.Mem.head _))), (List.forall_mem_cons.mpr ⟨(List.Mem.tail _ (List.Mem.tail _ (List.Mem.tail _ (List.Mem.head _)))), (List.forall_mem_cons.mpr ⟨(List.Mem.head _), (fun q h => absurd h List.not_mem_nil)⟩)⟩)⟩)⟩) ?_
                    exact ih _ a 1 (ka + 1) Is3189 Fs3189 JNW_s3189 (by omega) (by omega) kx
                  ·
                    refine d_lift (fun k ws X h => z_aload_n X (x := A 179) (show cdA 227 138 = some (.aload_n 0, 1, 0, 0, 0) from rfl) (List.Mem.tail _ (List.Mem.tail _ (List.Mem.tail _ (List.Mem.head _)))) h) ?_
                    refine d_liftS (fun k s X h => s_getR X 179 (show cdA 227 139 = some (.getfield 64, 3, 12, 33, 0) from rfl) (by decide) rfl rfl h) ?_
                    refine d_lift (fun k ws X h => z_load_n X (x := a) (show cdA 227 142 = some (.iload_n 1, 1, 0, 0, 0) from rfl) (List.Mem.tail _ (List.Mem.tail _ (List.Mem.tail _ (List.Mem.tail _ (List.Mem.head _))))) h) ?_
                    refine d_liftS (fun k s X h => z_aald X rw_230 (show cdA 227 143 = some (.aaload, 1, 0, 0, 0) from rfl) (by omega) (show a < 12 by omega) (by decide) h) ?_
                    refine d_lift (fun k ws X h => z_load_n X (x := ka) (show cdA 227 144 = some (.iload_n 3, 1, 0, 0, 0) from rfl) (List.Mem.tail _ (List.Mem.tail _ (List.Mem.tail _ (List.Mem.tail _ (List.Mem.tail _ (List.Mem.head _)))))) h) ?_
                    refine d_lift (fun k ws X h => z_const X (show cdA 227 145 = some (.iconst 1, 1, 0, 0, 0) from rfl) h) ?_
                    refine d_lift (fun k ws X h => z_sub X (show cdA 227 146 = some (.isub, 1, 0, 0, 0) from rfl) h) ?_
                    refine d_ald2 rw_230 (show cdA 227 147 = some (.iaload, 1, 0, 0, 0) from rfl) (show (a : Int).toNat < 12 by omega) (by omega) (show (ka - 1) < 24 by omega) (by decide) (Or.inr ((htn _ (show (a : Int).toNat < 12 by omega) (show (((a : Int).toNat : Nat) : Int) < iI s 90 by omega)).2.2.2 _ (show ((((ka - 1) : Int).toNat : Nat) : Int) < iC s 202 (a : Int).toNat by omega))) ?_
                    have b3192 : (0 : Int) ≤ (iC s3181 (204 + (a : Int).toNat) ((ka - 1) : Int).toNat) ∧ (iC s3181 (204 + (a : Int).toNat) ((ka - 1) : Int).toNat) ≤ 127 := rw_bd rw_230 Is3181 (show (a : Int).toNat < 12 by omega) (show ((ka - 1) : Int).toNat < 24 by omega)
                    refine d_lift (fun k ws X h => z_load X (x := (iC t (204 + (a : Int).toNat) (ka : Int).toNat)) (show cdA 227 148 = some (.iload 4, 2, 0, 0, 0) from rfl) (List.Mem.tail _ (List.Mem.tail _ (List.Mem.head _))) h) ?_
                    refine d_callT (As := [.int (Int32.ofInt (iC s3181 (204 + (a : Int).toNat) ((ka - 1) : Int).toNat)), .int (Int32.ofInt (iC t (204 + (a : Int).toNat) (ka : Int).toNat))]) (st := []) (show cdA 227 150 = some (.invokestatic 312, 3, 225, 1, 0) from rfl) rfl (d_stepOf (T := TU T 161 7) G Is3181 (by omega) (by omega) (fun q h => hti q ((by decide : ∀ q ∈ ([] : List Nat), q ∈ ([90, 89] : List Nat)) q h)) (fun a h => hta3001 a ((by decide : ∀ q ∈ ([] : List Nat), q ∈ ([161, 230] : List Nat)) a h))) ⟨rfl, rfl⟩ ⟨(show 6 + 1 ≤ 8 by omega), (show 8 + (mNL (miB 225) + 11) + 100 ≤ 143 by simp only [show mNL (miB 225) = 2 from rfl]; omega)⟩ (Nat.le_of_ble_eq_true rfl) (by decide) (by decide) (fun ee s3193 hq => ?_) (fun vv s3193 hq => ?_)
                    · obtain ⟨Is3193, Fs3193, e3194, hv, hrs3193, hps3193⟩ := hq; cases hv
                    obtain ⟨Is3193, Fs3193, e3194, hv, hrs3193, hps3193⟩ := hq
                    cases hv
                    have Gs3193 := fm_ts Fs3181 Fs3193 (by decide) (by decide)
                    have JNW_s3193 : NW s3193 := NW_fm Fs3193 (by decide) JNW_s3181
                    show DS l s0 D A dT 227 (rmN 227) [] [161] (TU T 161 7) Q (TU T 161 7) 153 [(5, .int (Int32.ofInt (iC t 230 ((iC t (204 + (a : Int).toNat) ((ka - 1) : Int).toNat)).toNat))), (2, .int (Int32.ofInt 1)), (4, .int (Int32.ofInt (iC t (204 + (a : Int).toNat) (ka : Int).toNat))), (0, .ref (A 179)), (1, .int (Int32.ofInt a)), (3, .int (Int32.ofInt ka))] [.int (Int32.ofInt e3194)] s3193
                    refine d_lift (fun k ws X h => z_const X (show cdA 227 153 = some (.iconst 3, 1, 0, 0, 0) from rfl) h) ?_
                    refine d_br (by omega) (by omega) (fun k ws X h1 h2 => z_icmp_le X (t := 172) (show cdA 227 154 = some (.if_icmp .le 18, 3, 5, 0, 0) from rfl) (by decide) ⟨by omega, by omega⟩ ⟨by omega, by omega⟩ h1 h2) (fun g3195 => ?_) (fun g3195 => ?_)
                    ·
                      refine d_lift (fun k ws X h => z_load_n X (x := a) (show cdA 227 172 = some (.iload_n 1, 1, 0, 0, 0) from rfl) (List.Mem.tail _ (List.Mem.tail _ (List.Mem.tail _ (List.Mem.tail _ (List.Mem.head _))))) h) ?_
                      refine d_lift (fun k ws X h => z_const X (show cdA 227 173 = some (.iconst 1, 1, 0, 0, 0) from rfl) h) ?_
                      refine d_lift (fun k ws X h => z_add X (show cdA 227 174 = some (.iadd, 1, 0, 0, 0) from rfl) h) ?_
                      refine d_lift (fun k ws X h => z_store X (lv' := [(5, .int (Int32.ofInt (a + 1))), (2, .int (Int32.ofInt 1)), (4, .int (Int32.ofInt (iC t (204 + (a : Int).toNat) (ka : Int).toNat))), (0, .ref (A 179)), (1, .int (Int32.ofInt a)), (3, .int (Int32.ofInt ka))]) (show cdA 227 175 = some (.istore 5, 2, 0, 0, 0) from rfl) (by decide) (fun _ h => h) h) ?_
                      refine d_lvs (lv := [(0, .ref (A 179)), (1, .int (Int32.ofInt a)), (2, .int (Int32.ofInt 1)), (3, .int (Int32.ofInt ka)), (4, .int (Int32.ofInt (iC t (204 + (a : Int).toNat) (ka : Int).toNat))), (5, .int (Int32.ofInt (a + 1)))]) (List.forall_mem_cons.mpr ⟨(List.Mem.tail _ (List.Mem.tail _ (List.Mem.tail _ (List.Mem.head _)))), (List.forall_mem_cons.mpr ⟨(List.Mem.tail _ (List.Mem.tail _ (List.Mem.tail _ (List.Mem.tail _ (List.Mem.head _))))), (List.forall_mem_cons.mpr ⟨(List.Mem.tail _ (List.Mem.head _)), (List.forall_mem_cons.mpr ⟨(List.Mem.tail _ (List.Mem.tail _ (List.Mem.tail _ (List.Mem.tail _ (List.Mem.tail _ (List.Mem.head _)))))), (List.forall_mem_cons.mpr ⟨(List.Mem.tail _ (List.Mem.tail _ (List.Mem.head _))), (List.forall_mem_cons.mpr ⟨(List.Mem.head _), (fun q h => absurd h List.not_mem_nil)⟩)⟩)⟩)⟩)⟩)⟩) ?_
                      refine L177 ((12 - (a + 1) : Int)).toNat s3193 a 1 ka (iC t (204 + (a : Int).toNat) (ka : Int).toNat) (a + 1) Is3193 Gs3193 JNW_s3193 (by omega) (by omega) ?_
                      intro s3196 x3197 Is3196 Fs3196 JNW_s3196 hs3196
                      have hta3198 : ∀ a ∈ ([161, 230] : List Nat), ∀ j, j < (bA a).2.2 → (TU T 161 7).2 a j := hta_g hta (by decide)
                      refine d_lift (fun k ws X h => z_inc X (x := ka) (lv' := [(3, .int (Int32.ofInt (ka + 1))), (0, .ref (A 179)), (1, .int (Int32.ofInt a)), (2, .int (Int32.ofInt 1)), (4, .int (Int32.ofInt (iC t (204 + (a : Int).toNat) (ka : Int).toNat))), (5, .int (Int32.ofInt x3197))]) (show cdA 227 278 = some (.iinc 3 1, 3, 0, 0, 0) from rfl) (by decide) (List.Mem.tail _ (List.Mem.tail _ (List.Mem.tail _ (List.Mem.head _)))) (fun _ h => h) h) ?_
                      refine d_lift (fun k ws X h => z_goto X (t := 35) (show cdA 227 281 = some (.goto (-246), 3, 0, 0, 0) from rfl) (by decide) h) ?_
                      refine d_lvs (lv := [(0, .ref (A 179)), (1, .int (Int32.ofInt a)), (2, .int (Int32.ofInt 1)), (3, .int (Int32.ofInt (ka + 1)))]) (List.forall_mem_cons.mpr ⟨(List.Mem.tail _ (List.Mem.head _)), (List.forall_mem_cons.mpr ⟨(List.Mem.tail _ (List.Mem.tail _ (List.Mem.head _))), (List.forall_mem_cons.mpr ⟨(List.Mem.tail _ (List.Mem.tail _ (List.Mem.tail _ (List.Mem.head _)))), (List.forall_mem_cons.mpr ⟨(List.Mem.head _), (fun q h => absurd h List.not_mem_nil)⟩)⟩)⟩)⟩) ?_
                      exact ih _ a 1 (ka + 1) Is3196 Fs3196 JNW_s3196 (by omega) (by omega) kx
                    ·
                      refine d_lift (fun k ws X h => z_aload_n X (x := A 179) (show cdA 227 157 = some (.aload_n 0, 1, 0, 0, 0) from rfl) (List.Mem.tail _ (List.Mem.tail _ (List.Mem.tail _ (List.Mem.head _)))) h) ?_
                      refine d_liftS (fun k s X h => s_getR X 179 (show cdA 227 158 = some (.getfield 32, 3, 12, 21, 0) from rfl) (by decide) rfl rfl h) ?_
                      refine d_lift (fun k ws X h => z_const X (show cdA 227 161 = some (.iconst 3, 1, 0, 0, 0) from rfl) h) ?_
                      refine d_lift (fun k ws X h => w_dup2_11 X.1 (ax_d X (show cdA 227 162 = some (.dup2, 1, 0, 0, 0) from rfl)) rfl rfl h) ?_
                      refine d_ald 184 (show cdA 227 163 = some (.iaload, 1, 0, 0, 0) from rfl) (by decide) rfl (by omega) (show 3 < 7 by omega) (by decide) (hta3001 161 (by decide) _ (show (3 : Int).toNat < 7 by omega)) ?_
                      have b3199 : ((-2147483648) : Int) ≤ iC s3193 161 (3 : Int).toNat ∧ iC s3193 161 (3 : Int).toNat ≤ 2147483647 := Is3193.2 161 _ (show (3 : Int).toNat < 7 by omega)
                      refine d_lift (fun k ws X h => z_aload_n X (x := A 179) (show cdA 227 164 = some (.aload_n 0, 1, 0, 0, 0) from rfl) (List.Mem.tail _ (List.Mem.tail _ (List.Mem.tail _ (List.Mem.head _)))) h) ?_
                      refine d_liftS (fun k s X h => s_getR X 179 (show cdA 227 165 = some (.getfield 61, 3, 12, 32, 0) from rfl) (by decide) rfl rfl h) ?_
                      refine d_lift (fun k ws X h => z_load_n X (x := a) (show cdA 227 168 = some (.iload_n 1, 1, 0, 0, 0) from rfl) (List.Mem.tail _ (List.Mem.tail _ (List.Mem.tail _ (List.Mem.tail _ (List.Mem.head _))))) h) ?_
                      refine d_ald 229 (show cdA 227 169 = some (.iaload, 1, 0, 0, 0) from rfl) (by decide) rfl (by omega) (show a < 12 by omega) (by decide) (Or.inr ((htn _ (show (a : Int).toNat < 12 by omega) (show (((a : Int).toNat : Nat) : Int) < iI s 90 by omega)).2.1)) ?_
                      have b3200 : (0 : Int) ≤ iC s3193 203 (a).toNat ∧ iC s3193 203 (a).toNat ≤ 50 := Is3193.2 203 _ (show (a).toNat < 12 by omega)
                      have q3201 : iC s3193 203 (a).toNat = iC s 203 (a).toNat := fm_c Gs3193 (by decide)
                      refine d_lift (fun k ws X h => z_add X (show cdA 227 170 = some (.iadd, 1, 0, 0, 0) from rfl) h) ?_
                      refine d_any (fun y3202 hy3202 => ?_)
                      refine d_ast 184 (show cdA 227 171 = some (.iastore, 1, 0, 0, 0) from rfl) (by decide) rfl (by omega) (show 3 < 7 by omega) (by decide) (show 161 ∈ _ by decide) (show ((-2147483648) : Int) ≤ y3202 ∧ y3202 ≤ 2147483647 by omega) ⟨by omega, by omega⟩ ?_
                      refine d_mono (T' := TU T 161 7) (fun _ h => h) (fun _ _ h => Or.inr h) ?_
                      obtain ⟨s3203, hs3203⟩ : ∃ x0, x0 = uC s3193 161 (3 : Int).toNat (Int32.ofInt y3202) := ⟨_, rfl⟩
                      rw [← hs3203]
                      have Is3203 : Bd s3203 := by rw [hs3203]; exact bd_C Is3193 (show ((-2147483648) : Int) ≤ y3202 ∧ y3202 ≤ 2147483647 by omega) ⟨by omega, by omega⟩
                      have Fs3203 := fm_C (i := (3 : Int).toNat) (x := Int32.ofInt y3202) Gs3193 (show 161 ∈ _ by decide)
                      rw [← hs3203] at Fs3203
                      have fs3203 : Fm [] [161] s3193 s3203 := by rw [hs3203]; exact fm_C (fm_rf _ _ _) (show 161 ∈ _ by decide)
                      have JNW_s3203 : NW s3203 := NW_fm fs3203 (by decide) JNW_s3193
                      refine d_lift (fun k ws X h => z_load_n X (x := a) (show cdA 227 172 = some (.iload_n 1, 1, 0, 0, 0) from rfl) (List.Mem.tail _ (List.Mem.tail _ (List.Mem.tail _ (List.Mem.tail _ (List.Mem.head _))))) h) ?_
                      refine d_lift (fun k ws X h => z_const X (show cdA 227 173 = some (.iconst 1, 1, 0, 0, 0) from rfl) h) ?_
                      refine d_lift (fun k ws X h => z_add X (show cdA 227 174 = some (.iadd, 1, 0, 0, 0) from rfl) h) ?_
                      refine d_lift (fun k ws X h => z_store X (lv' := [(5, .int (Int32.ofInt (a + 1))), (2, .int (Int32.ofInt 1)), (4, .int (Int32.ofInt (iC t (204 + (a : Int).toNat) (ka : Int).toNat))), (0, .ref (A 179)), (1, .int (Int32.ofInt a)), (3, .int (Int32.ofInt ka))]) (show cdA 227 175 = some (.istore 5, 2, 0, 0, 0) from rfl) (by decide) (fun _ h => h) h) ?_
                      refine d_lvs (lv := [(0, .ref (A 179)), (1, .int (Int32.ofInt a)), (2, .int (Int32.ofInt 1)), (3, .int (Int32.ofInt ka)), (4, .int (Int32.ofInt (iC t (204 + (a : Int).toNat) (ka : Int).toNat))), (5, .int (Int32.ofInt (a + 1)))]) (List.forall_mem_cons.mpr ⟨(List.Mem.tail _ (List.Mem.tail _ (List.Mem.tail _ (List.Mem.head _)))), (List.forall_mem_cons.mpr ⟨(List.Mem.tail _ (List.Mem.tail _ (List.Mem.tail _ (List.Mem.tail _ (List.Mem.head _))))), (List.forall_mem_cons.mpr ⟨(List.Mem.tail _ (List.Mem.head _)), (List.forall_mem_cons.mpr ⟨(List.Mem.tail _ (List.Mem.tail _ (List.Mem.tail _ (List.Mem.tail _ (List.Mem.tail _ (List.Mem.head _)))))), (List.forall_mem_cons.mpr ⟨(List.Mem.tail _ (List.Mem.tail _ (List.Mem.head _))), (List.forall_mem_cons.mpr ⟨(List.Mem.head _), (fun q h => absurd h List.not_mem_nil)⟩)⟩)⟩)⟩)⟩)⟩) ?_
                      refine L177 ((12 - (a + 1) : Int)).toNat s3203 a 1 ka (iC t (204 + (a : Int).toNat) (ka : Int).toNat) (a + 1) Is3203 Fs3203 JNW_s3203 (by omega) (by omega) ?_
                      intro s3204 x3205 Is3204 Fs3204 JNW_s3204 hs3204
                      have hta3206 : ∀ a ∈ ([161, 230] : List Nat), ∀ j, j < (bA a).2.2 → (TU T 161 7).2 a j := hta_g hta (by decide)
                      refine d_lift (fun k ws X h => z_inc X (x := ka) (lv' := [(3, .int (Int32.ofInt (ka + 1))), (0, .ref (A 179)), (1, .int (Int32.ofInt a)), (2, .int (Int32.ofInt 1)), (4, .int (Int32.ofInt (iC t (204 + (a : Int).toNat) (ka : Int).toNat))), (5, .int (Int32.ofInt x3205))]) (show cdA 227 278 = some (.iinc 3 1, 3, 0, 0, 0) from rfl) (by decide) (List.Mem.tail _ (List.Mem.tail _ (List.Mem.tail _ (List.Mem.head _)))) (fun _ h => h) h) ?_
                      refine d_lift (fun k ws X h => z_goto X (t := 35) (show cdA 227 281 = some (.goto (-246), 3, 0, 0, 0) from rfl) (by decide) h) ?_
                      refine d_lvs (lv := [(0, .ref (A 179)), (1, .int (Int32.ofInt a)), (2, .int (Int32.ofInt 1)), (3, .int (Int32.ofInt (ka + 1)))]) (List.forall_mem_cons.mpr ⟨(List.Mem.tail _ (List.Mem.head _)), (List.forall_mem_cons.mpr ⟨(List.Mem.tail _ (List.Mem.tail _ (List.Mem.head _))), (List.forall_mem_cons.mpr ⟨(List.Mem.tail _ (List.Mem.tail _ (List.Mem.tail _ (List.Mem.head _)))), (List.forall_mem_cons.mpr ⟨(List.Mem.head _), (fun q h => absurd h List.not_mem_nil)⟩)⟩)⟩)⟩) ?_
                      exact ih _ a 1 (ka + 1) Is3204 Fs3204 JNW_s3204 (by omega) (by omega) kx
  have L23 : ∀ (n : Nat) (t : PS) (a : Int), Bd t → Fm [] [161] s t → NW t → (0 ≤ a ∧ a ≤ 12) → 12 - a ≤ n → (∀ (t' : PS) (a' : Int), Bd t' → Fm [] [161] s t' → NW t' → (0 ≤ a' ∧ a' ≤ 12) → DS l s0 D A dT 227 (rmN 227) [] [161] (TU T 161 7) Q (TU T 161 7) 313 [(0, .ref (A 179)), (1, .int (Int32.ofInt a'))] [] t') → DS l s0 D A dT 227 (rmN 227) [] [161] (TU T 161 7) Q (TU T 161 7) 23 [(0, .ref (A 179)), (1, .int (Int32.ofInt a))] [] t := by
    intro n
    induction n with
    | zero =>
      intro t a I F jjNW hi hm kx
      have hta4001 : ∀ a ∈ ([161, 230] : List Nat), ∀ j, j < (bA a).2.2 → (TU T 161 7).2 a j := hta_g hta (by decide)
      refine d_lift (fun k ws X h => z_load_n X (x := a) (show cdA 227 23 = some (.iload_n 1, 1, 0, 0, 0) from rfl) (List.Mem.tail _ (List.Mem.head _)) h) ?_
      refine d_lift (fun k ws X h => z_aload_n X (x := A 179) (show cdA 227 24 = some (.aload_n 0, 1, 0, 0, 0) from rfl) (List.Mem.head _) h) ?_
      refine d_getI 179 (show cdA 227 25 = some (.getfield 233, 3, 12, 22, 0) from rfl) (by decide) rfl rfl (hti 90 (by decide)) ?_
      have b4002 : (0 : Int) ≤ iI t 90 ∧ iI t 90 ≤ 12 := I.1 90
      have q4003 : iI t 90 = iI s 90 := fm_i F (by decide)
      refine d_br (by omega) (by omega) (fun k ws X h1 h2 => z_icmp_ge X (t := 313) (show cdA 227 28 = some (.if_icmp .ge 285, 3, 3, 0, 0) from rfl) (by decide) ⟨by omega, by omega⟩ ⟨by omega, by omega⟩ h1 h2) (fun g4004 => ?_) (fun g4004 => ?_)
      ·
        refine d_lvs (lv := [(0, .ref (A 179)), (1, .int (Int32.ofInt a))]) (List.forall_mem_cons.mpr ⟨(List.Mem.head _), (List.forall_mem_cons.mpr ⟨(List.Mem.tail _ (List.Mem.head _)), (fun q h => absurd h List.not_mem_nil)⟩)⟩) ?_
        exact kx _ a I F jjNW (by omega)
      ·
        refine d_lift (fun k ws X h => z_const X (show cdA 227 31 = some (.iconst 0, 1, 0, 0, 0) from rfl) h) ?_
        refine d_lift (fun k ws X h => z_store_n X (lv' := [(2, .int (Int32.ofInt 0)), (0, .ref (A 179)), (1, .int (Int32.ofInt a))]) (show cdA 227 32 = some (.istore_n 2, 1, 0, 0, 0) from rfl) (by decide) (fun _ h => h) h) ?_
        refine d_lift (fun k ws X h => z_const X (show cdA 227 33 = some (.iconst 0, 1, 0, 0, 0) from rfl) h) ?_
        refine d_lift (fun k ws X h => z_store_n X (lv' := [(3, .int (Int32.ofInt 0)), (2, .int (Int32.ofInt 0)), (0, .ref (A 179)), (1, .int (Int32.ofInt a))]) (show cdA 227 34 = some (.istore_n 3, 1, 0, 0, 0) from rfl) (by decide) (fun _ h => h) h) ?_
        refine d_lvs (lv := [(0, .ref (A 179)), (1, .int (Int32.ofInt a)), (2, .int (Int32.ofInt 0)), (3, .int (Int32.ofInt 0))]) (List.forall_mem_cons.mpr ⟨(List.Mem.tail _ (List.Mem.tail _ (List.Mem.head _))), (List.forall_mem_cons.mpr ⟨(List.Mem.tail _ (List.Mem.tail _ (List.Mem.tail _ (List.Mem.head _)))), (List.forall_mem_cons.mpr ⟨(List.Mem.tail _ (List.Mem.head _)), (List.forall_mem_cons.mpr ⟨(List.Mem.head _), (fun q h => absurd h List.not_mem_nil)⟩)⟩)⟩)⟩) ?_
        refine L35 ((24 - 0 : Int)).toNat t a 0 0 I F jjNW (by omega) (by omega) ?_
        intro s4005 x4006 x4007 Is4005 Fs4005 JNW_s4005 hs4005
        have hta4008 : ∀ a ∈ ([161, 230] : List Nat), ∀ j, j < (bA a).2.2 → (TU T 161 7).2 a j := hta_g hta (by decide)
        refine d_lift (fun k ws X h => z_aload_n X (x := A 179) (show cdA 227 284 = some (.aload_n 0, 1, 0, 0, 0) from rfl) (List.Mem.head _) h) ?_
        refine d_liftS (fun k s X h => s_getR X 179 (show cdA 227 285 = some (.getfield 32, 3, 12, 21, 0) from rfl) (by decide) rfl rfl h) ?_
        refine d_lift (fun k ws X h => z_const X (show cdA 227 288 = some (.iconst 0, 1, 0, 0, 0) from rfl) h) ?_
        refine d_lift (fun k ws X h => w_dup2_11 X.1 (ax_d X (show cdA 227 289 = some (.dup2, 1, 0, 0, 0) from rfl)) rfl rfl h) ?_
        refine d_ald 184 (show cdA 227 290 = some (.iaload, 1, 0, 0, 0) from rfl) (by decide) rfl (by omega) (show 0 < 7 by omega) (by decide) (hta4008 161 (by decide) _ (show (0 : Int).toNat < 7 by omega)) ?_
        have b4009 : ((-2147483648) : Int) ≤ iC s4005 161 (0 : Int).toNat ∧ iC s4005 161 (0 : Int).toNat ≤ 2147483647 := Is4005.2 161 _ (show (0 : Int).toNat < 7 by omega)
        refine d_lift (fun k ws X h => z_load_n X (x := x4006) (show cdA 227 291 = some (.iload_n 2, 1, 0, 0, 0) from rfl) (List.Mem.tail _ (List.Mem.tail _ (List.Mem.head _))) h) ?_
        refine d_br (by omega) (by omega) (fun k ws X h1 h2 => z_if_eq X (t := 304) (show cdA 227 292 = some (.ifCond .eq 12, 3, 0, 0, 0) from rfl) (by decide) ⟨by omega, by omega⟩ h1 h2) (fun g4010 => ?_) (fun g4010 => ?_)
        ·
          refine d_lift (fun k ws X h => z_const X (show cdA 227 304 = some (.iconst 0, 1, 0, 0, 0) from rfl) h) ?_
          refine d_lift (fun k ws X h => z_add X (show cdA 227 305 = some (.iadd, 1, 0, 0, 0) from rfl) h) ?_
          refine d_any (fun y4011 hy4011 => ?_)
          refine d_ast 184 (show cdA 227 306 = some (.iastore, 1, 0, 0, 0) from rfl) (by decide) rfl (by omega) (show 0 < 7 by omega) (by decide) (show 161 ∈ _ by decide) (show ((-2147483648) : Int) ≤ y4011 ∧ y4011 ≤ 2147483647 by omega) ⟨by omega, by omega⟩ ?_
          refine d_mono (T' := TU T 161 7) (fun _ h => h) (fun _ _ h => Or.inr h) ?_
          obtain ⟨s4012, hs4012⟩ : ∃ x0, x0 = uC s4005 161 (0 : Int).toNat (Int32.ofInt y4011) := ⟨_, rfl⟩
          rw [← hs4012]
          have Is4012 : Bd s4012 := by rw [hs4012]; exact bd_C Is4005 (show ((-2147483648) : Int) ≤ y4011 ∧ y4011 ≤ 2147483647 by omega) ⟨by omega, by omega⟩
          have Fs4012 := fm_C (i := (0 : Int).toNat) (x := Int32.ofInt y4011) Fs4005 (show 161 ∈ _ by decide)
          rw [← hs4012] at Fs4012
          have fs4012 : Fm [] [161] s4005 s4012 := by rw [hs4012]; exact fm_C (fm_rf _ _ _) (show 161 ∈ _ by decide)
          have JNW_s4012 : NW s4012 := NW_fm fs4012 (by decide) JNW_s4005
          refine d_lift (fun k ws X h => z_inc X (x := a) (lv' := [(1, .int (Int32.ofInt (a + 1))), (0, .ref (A 179)), (2, .int (Int32.ofInt x4006)), (3, .int (Int32.ofInt x4007))]) (show cdA 227 307 = some (.iinc 1 1, 3, 0, 0, 0) from rfl) (by decide) (List.Mem.tail _ (List.Mem.head _)) (fun _ h => h) h) ?_
          refine d_lift (fun k ws X h => z_goto X (t := 23) (show cdA 227 310 = some (.goto (-287), 3, 0, 0, 0) from rfl) (by decide) h) ?_
          exfalso
          omega
        ·
          refine d_lift (fun k ws X h => z_aload_n X (x := A 179) (show cdA 227 295 = some (.aload_n 0, 1, 0, 0, 0) from rfl) (List.Mem.head _) h) ?_
          refine d_liftS (fun k s X h => s_getR X 179 (show cdA 227 296 = some (.getfield 61, 3, 12, 32, 0) from rfl) (by decide) rfl rfl h) ?_
          refine d_lift (fun k ws X h => z_load_n X (x := a) (show cdA 227 299 = some (.iload_n 1, 1, 0, 0, 0) from rfl) (List.Mem.tail _ (List.Mem.head _)) h) ?_
          refine d_ald 229 (show cdA 227 300 = some (.iaload, 1, 0, 0, 0) from rfl) (by decide) rfl (by omega) (show a < 12 by omega) (by decide) (Or.inr ((htn _ (show (a : Int).toNat < 12 by omega) (show (((a : Int).toNat : Nat) : Int) < iI s 90 by omega)).2.1)) ?_
          have b4013 : (0 : Int) ≤ iC s4005 203 (a).toNat ∧ iC s4005 203 (a).toNat ≤ 50 := Is4005.2 203 _ (show (a).toNat < 12 by omega)
          have q4014 : iC s4005 203 (a).toNat = iC s 203 (a).toNat := fm_c Fs4005 (by decide)
          refine d_lift (fun k ws X h => z_goto X (t := 305) (show cdA 227 301 = some (.goto 4, 3, 0, 0, 0) from rfl) (by decide) h) ?_
          refine d_lift (fun k ws X h => z_add X (show cdA 227 305 = some (.iadd, 1, 0, 0, 0) from rfl) h) ?_
          refine d_any (fun y4015 hy4015 => ?_)
          refine d_ast 184 (show cdA 227 306 = some (.iastore, 1, 0, 0, 0) from rfl) (by decide) rfl (by omega) (show 0 < 7 by omega) (by decide) (show 161 ∈ _ by decide) (show ((-2147483648) : Int) ≤ y4015 ∧ y4015 ≤ 2147483647 by omega) ⟨by omega, by omega⟩ ?_
          refine d_mono (T' := TU T 161 7) (fun _ h => h) (fun _ _ h => Or.inr h) ?_
          obtain ⟨s4016, hs4016⟩ : ∃ x0, x0 = uC s4005 161 (0 : Int).toNat (Int32.ofInt y4015) := ⟨_, rfl⟩
          rw [← hs4016]
          have Is4016 : Bd s4016 := by rw [hs4016]; exact bd_C Is4005 (show ((-2147483648) : Int) ≤ y4015 ∧ y4015 ≤ 2147483647 by omega) ⟨by omega, by omega⟩
          have Fs4016 := fm_C (i := (0 : Int).toNat) (x := Int32.ofInt y4015) Fs4005 (show 161 ∈ _ by decide)
          rw [← hs4016] at Fs4016
          have fs4016 : Fm [] [161] s4005 s4016 := by rw [hs4016]; exact fm_C (fm_rf _ _ _) (show 161 ∈ _ by decide)
          have JNW_s4016 : NW s4016 := NW_fm fs4016 (by decide) JNW_s4005
          refine d_lift (fun k ws X h => z_inc X (x := a) (lv' := [(1, .int (Int32.ofInt (a + 1))), (0, .ref (A 179)), (2, .int (Int32.ofInt x4006)), (3, .int (Int32.ofInt x4007))]) (show cdA 227 307 = some (.iinc 1 1, 3, 0, 0, 0) from rfl) (by decide) (List.Mem.tail _ (List.Mem.head _)) (fun _ h => h) h) ?_
          refine d_lift (fun k ws X h => z_goto X (t := 23) (show cdA 227 310 = some (.goto (-287), 3, 0, 0, 0) from rfl) (by decide) h) ?_
          exfalso
          omega
    | succ n ih =>
      intro t a I F jjNW hi hm kx
      have hta4001 : ∀ a ∈ ([161, 230] : List Nat), ∀ j, j < (bA a).2.2 → (TU T 161 7).2 a j := hta_g hta (by decide)
      refine d_lift (fun k ws X h => z_load_n X (x := a) (show cdA 227 23 = some (.iload_n 1, 1, 0, 0, 0) from rfl) (List.Mem.tail _ (List.Mem.head _)) h) ?_
      refine d_lift (fun k ws X h => z_aload_n X (x := A 179) (show cdA 227 24 = some (.aload_n 0, 1, 0, 0, 0) from rfl) (List.Mem.head _) h) ?_
      refine d_getI 179 (show cdA 227 25 = some (.getfield 233, 3, 12, 22, 0) from rfl) (by decide) rfl rfl (hti 90 (by decide)) ?_
      have b4002 : (0 : Int) ≤ iI t 90 ∧ iI t 90 ≤ 12 := I.1 90
      have q4003 : iI t 90 = iI s 90 := fm_i F (by decide)
      refine d_br (by omega) (by omega) (fun k ws X h1 h2 => z_icmp_ge X (t := 313) (show cdA 227 28 = some (.if_icmp .ge 285, 3, 3, 0, 0) from rfl) (by decide) ⟨by omega, by omega⟩ ⟨by omega, by omega⟩ h1 h2) (fun g4004 => ?_) (fun g4004 => ?_)
      ·
        refine d_lvs (lv := [(0, .ref (A 179)), (1, .int (Int32.ofInt a))]) (List.forall_mem_cons.mpr ⟨(List.Mem.head _), (List.forall_mem_cons.mpr ⟨(List.Mem.tail _ (List.Mem.head _)), (fun q h => absurd h List.not_mem_nil)⟩)⟩) ?_
        exact kx _ a I F jjNW (by omega)
      ·
        refine d_lift (fun k ws X h => z_const X (show cdA 227 31 = some (.iconst 0, 1, 0, 0, 0) from rfl) h) ?_
        refine d_lift (fun k ws X h => z_store_n X (lv' := [(2, .int (Int32.ofInt 0)), (0, .ref (A 179)), (1, .int (Int32.ofInt a))]) (show cdA 227 32 = some (.istore_n 2, 1, 0, 0, 0) from rfl) (by decide) (fun _ h => h) h) ?_
        refine d_lift (fun k ws X h => z_const X (show cdA 227 33 = some (.iconst 0, 1, 0, 0, 0) from rfl) h) ?_
        refine d_lift (fun k ws X h => z_store_n X (lv' := [(3, .int (Int32.ofInt 0)), (2, .int (Int32.ofInt 0)), (0, .ref (A 179)), (1, .int (Int32.ofInt a))]) (show cdA 227 34 = some (.istore_n 3, 1, 0, 0, 0) from rfl) (by decide) (fun _ h => h) h) ?_
        refine d_lvs (lv := [(0, .ref (A 179)), (1, .int (Int32.ofInt a)), (2, .int (Int32.ofInt 0)), (3, .int (Int32.ofInt 0))]) (List.forall_mem_cons.mpr ⟨(List.Mem.tail _ (List.Mem.tail _ (List.Mem.head _))), (List.forall_mem_cons.mpr ⟨(List.Mem.tail _ (List.Mem.tail _ (List.Mem.tail _ (List.Mem.head _)))), (List.forall_mem_cons.mpr ⟨(List.Mem.tail _ (List.Mem.head _)), (List.forall_mem_cons.mpr ⟨(List.Mem.head _), (fun q h => absurd h List.not_mem_nil)⟩)⟩)⟩)⟩) ?_
        refine L35 ((24 - 0 : Int)).toNat t a 0 0 I F jjNW (by omega) (by omega) ?_
        intro s4005 x4006 x4007 Is4005 Fs4005 JNW_s4005 hs4005
        have hta4008 : ∀ a ∈ ([161, 230] : List Nat), ∀ j, j < (bA a).2.2 → (TU T 161 7).2 a j := hta_g hta (by decide)
        refine d_lift (fun k ws X h => z_aload_n X (x := A 179) (show cdA 227 284 = some (.aload_n 0, 1, 0, 0, 0) from rfl) (List.Mem.head _) h) ?_
        refine d_liftS (fun k s X h => s_getR X 179 (show cdA 227 285 = some (.getfield 32, 3, 12, 21, 0) from rfl) (by decide) rfl rfl h) ?_
        refine d_lift (fun k ws X h => z_const X (show cdA 227 288 = some (.iconst 0, 1, 0, 0, 0) from rfl) h) ?_
        refine d_lift (fun k ws X h => w_dup2_11 X.1 (ax_d X (show cdA 227 289 = some (.dup2, 1, 0, 0, 0) from rfl)) rfl rfl h) ?_
        refine d_ald 184 (show cdA 227 290 = some (.iaload, 1, 0, 0, 0) from rfl) (by decide) rfl (by omega) (show 0 < 7 by omega) (by decide) (hta4008 161 (by decide) _ (show (0 : Int).toNat < 7 by omega)) ?_
        have b4009 : ((-2147483648) : Int) ≤ iC s4005 161 (0 : Int).toNat ∧ iC s4005 161 (0 : Int).toNat ≤ 2147483647 := Is4005.2 161 _ (show (0 : Int).toNat < 7 by omega)
        refine d_lift (fun k ws X h => z_load_n X (x := x4006) (show cdA 227 291 = some (.iload_n 2, 1, 0, 0, 0) from rfl) (List.Mem.tail _ (List.Mem.tail _ (List.Mem.head _))) h) ?_
        refine d_br (by omega) (by omega) (fun k ws X h1 h2 => z_if_eq X (t := 304) (show cdA 227 292 = some (.ifCond .eq 12, 3, 0, 0, 0) from rfl) (by decide) ⟨by omega, by omega⟩ h1 h2) (fun g4010 => ?_) (fun g4010 => ?_)
        ·
          refine d_lift (fun k ws X h => z_const X (show cdA 227 304 = some (.iconst 0, 1, 0, 0, 0) from rfl) h) ?_
          refine d_lift (fun k ws X h => z_add X (show cdA 227 305 = some (.iadd, 1, 0, 0, 0) from rfl) h) ?_
          refine d_any (fun y4011 hy4011 => ?_)
          refine d_ast 184 (show cdA 227 306 = some (.iastore, 1, 0, 0, 0) from rfl) (by decide) rfl (by omega) (show 0 < 7 by omega) (by decide) (show 161 ∈ _ by decide) (show ((-2147483648) : Int) ≤ y4011 ∧ y4011 ≤ 2147483647 by omega) ⟨by omega, by omega⟩ ?_
          refine d_mono (T' := TU T 161 7) (fun _ h => h) (fun _ _ h => Or.inr h) ?_
          obtain ⟨s4012, hs4012⟩ : ∃ x0, x0 = uC s4005 161 (0 : Int).toNat (Int32.ofInt y4011) := ⟨_, rfl⟩
          rw [← hs4012]
          have Is4012 : Bd s4012 := by rw [hs4012]; exact bd_C Is4005 (show ((-2147483648) : Int) ≤ y4011 ∧ y4011 ≤ 2147483647 by omega) ⟨by omega, by omega⟩
          have Fs4012 := fm_C (i := (0 : Int).toNat) (x := Int32.ofInt y4011) Fs4005 (show 161 ∈ _ by decide)
          rw [← hs4012] at Fs4012
          have fs4012 : Fm [] [161] s4005 s4012 := by rw [hs4012]; exact fm_C (fm_rf _ _ _) (show 161 ∈ _ by decide)
          have JNW_s4012 : NW s4012 := NW_fm fs4012 (by decide) JNW_s4005
          refine d_lift (fun k ws X h => z_inc X (x := a) (lv' := [(1, .int (Int32.ofInt (a + 1))), (0, .ref (A 179)), (2, .int (Int32.ofInt x4006)), (3, .int (Int32.ofInt x4007))]) (show cdA 227 307 = some (.iinc 1 1, 3, 0, 0, 0) from rfl) (by decide) (List.Mem.tail _ (List.Mem.head _)) (fun _ h => h) h) ?_
          refine d_lift (fun k ws X h => z_goto X (t := 23) (show cdA 227 310 = some (.goto (-287), 3, 0, 0, 0) from rfl) (by decide) h) ?_
          refine d_lvs (lv := [(0, .ref (A 179)), (1, .int (Int32.ofInt (a + 1)))]) (List.forall_mem_cons.mpr ⟨(List.Mem.tail _ (List.Mem.head _)), (List.forall_mem_cons.mpr ⟨(List.Mem.head _), (fun q h => absurd h List.not_mem_nil)⟩)⟩) ?_
          exact ih _ (a + 1) Is4012 Fs4012 JNW_s4012 (by omega) (by omega) kx
        ·
          refine d_lift (fun k ws X h => z_aload_n X (x := A 179) (show cdA 227 295 = some (.aload_n 0, 1, 0, 0, 0) from rfl) (List.Mem.head _) h) ?_
          refine d_liftS (fun k s X h => s_getR X 179 (show cdA 227 296 = some (.getfield 61, 3, 12, 32, 0) from rfl) (by decide) rfl rfl h) ?_
          refine d_lift (fun k ws X h => z_load_n X (x := a) (show cdA 227 299 = some (.iload_n 1, 1, 0, 0, 0) from rfl) (List.Mem.tail _ (List.Mem.head _)) h) ?_
          refine d_ald 229 (show cdA 227 300 = some (.iaload, 1, 0, 0, 0) from rfl) (by decide) rfl (by omega) (show a < 12 by omega) (by decide) (Or.inr ((htn _ (show (a : Int).toNat < 12 by omega) (show (((a : Int).toNat : Nat) : Int) < iI s 90 by omega)).2.1)) ?_
          have b4013 : (0 : Int) ≤ iC s4005 203 (a).toNat ∧ iC s4005 203 (a).toNat ≤ 50 := Is4005.2 203 _ (show (a).toNat < 12 by omega)
          have q4014 : iC s4005 203 (a).toNat = iC s 203 (a).toNat := fm_c Fs4005 (by decide)
          refine d_lift (fun k ws X h => z_goto X (t := 305) (show cdA 227 301 = some (.goto 4, 3, 0, 0, 0) from rfl) (by decide) h) ?_
          refine d_lift (fun k ws X h => z_add X (show cdA 227 305 = some (.iadd, 1, 0, 0, 0) from rfl) h) ?_
          refine d_any (fun y4015 hy4015 => ?_)
          refine d_ast 184 (show cdA 227 306 = some (.iastore, 1, 0, 0, 0) from rfl) (by decide) rfl (by omega) (show 0 < 7 by omega) (by decide) (show 161 ∈ _ by decide) (show ((-2147483648) : Int) ≤ y4015 ∧ y4015 ≤ 2147483647 by omega) ⟨by omega, by omega⟩ ?_
          refine d_mono (T' := TU T 161 7) (fun _ h => h) (fun _ _ h => Or.inr h) ?_
          obtain ⟨s4016, hs4016⟩ : ∃ x0, x0 = uC s4005 161 (0 : Int).toNat (Int32.ofInt y4015) := ⟨_, rfl⟩
          rw [← hs4016]
          have Is4016 : Bd s4016 := by rw [hs4016]; exact bd_C Is4005 (show ((-2147483648) : Int) ≤ y4015 ∧ y4015 ≤ 2147483647 by omega) ⟨by omega, by omega⟩
          have Fs4016 := fm_C (i := (0 : Int).toNat) (x := Int32.ofInt y4015) Fs4005 (show 161 ∈ _ by decide)
          rw [← hs4016] at Fs4016
          have fs4016 : Fm [] [161] s4005 s4016 := by rw [hs4016]; exact fm_C (fm_rf _ _ _) (show 161 ∈ _ by decide)
          have JNW_s4016 : NW s4016 := NW_fm fs4016 (by decide) JNW_s4005
          refine d_lift (fun k ws X h => z_inc X (x := a) (lv' := [(1, .int (Int32.ofInt (a + 1))), (0, .ref (A 179)), (2, .int (Int32.ofInt x4006)), (3, .int (Int32.ofInt x4007))]) (show cdA 227 307 = some (.iinc 1 1, 3, 0, 0, 0) from rfl) (by decide) (List.Mem.tail _ (List.Mem.head _)) (fun _ h => h) h) ?_
          refine d_lift (fun k ws X h => z_goto X (t := 23) (show cdA 227 310 = some (.goto (-287), 3, 0, 0, 0) from rfl) (by decide) h) ?_
          refine d_lvs (lv := [(0, .ref (A 179)), (1, .int (Int32.ofInt (a + 1)))]) (List.forall_mem_cons.mpr ⟨(List.Mem.tail _ (List.Mem.head _)), (List.forall_mem_cons.mpr ⟨(List.Mem.head _), (fun q h => absurd h List.not_mem_nil)⟩)⟩) ?_
          exact ih _ (a + 1) Is4016 Fs4016 JNW_s4016 (by omega) (by omega) kx
  have L315 : ∀ (n : Nat) (t : PS) (a : Int), Bd t → Fm [] [161] s t → NW t → (0 ≤ a ∧ a ≤ 128) → 128 - a ≤ n → (∀ (t' : PS) (a' : Int), Bd t' → Fm [] [161] s t' → NW t' → (0 ≤ a' ∧ a' ≤ 128) → DS l s0 D A dT 227 (rmN 227) [] [161] (TU T 161 7) Q (TU T 161 7) 370 [(0, .ref (A 179)), (1, .int (Int32.ofInt a'))] [] t') → DS l s0 D A dT 227 (rmN 227) [] [161] (TU T 161 7) Q (TU T 161 7) 315 [(0, .ref (A 179)), (1, .int (Int32.ofInt a))] [] t := by
    intro n
    induction n with
    | zero =>
      intro t a I F jjNW hi hm kx
      have hta5001 : ∀ a ∈ ([161, 230] : List Nat), ∀ j, j < (bA a).2.2 → (TU T 161 7).2 a j := hta_g hta (by decide)
      refine d_lift (fun k ws X h => z_load_n X (x := a) (show cdA 227 315 = some (.iload_n 1, 1, 0, 0, 0) from rfl) (List.Mem.tail _ (List.Mem.head _)) h) ?_
      refine d_lift (fun k ws X h => z_sipush X (show cdA 227 316 = some (.sipush 128, 3, 0, 0, 128) from rfl) h) ?_
      refine d_br (by omega) (by omega) (fun k ws X h1 h2 => z_icmp_ge X (t := 370) (show cdA 227 319 = some (.if_icmp .ge 51, 3, 3, 0, 0) from rfl) (by decide) ⟨by omega, by omega⟩ ⟨by omega, by omega⟩ h1 h2) (fun g5002 => ?_) (fun g5002 => ?_)
      ·
        refine d_lvs (lv := [(0, .ref (A 179)), (1, .int (Int32.ofInt a))]) (List.forall_mem_cons.mpr ⟨(List.Mem.head _), (List.forall_mem_cons.mpr ⟨(List.Mem.tail _ (List.Mem.head _)), (fun q h => absurd h List.not_mem_nil)⟩)⟩) ?_
        exact kx _ a I F jjNW (by omega)
      ·
        refine d_lift (fun k ws X h => z_aload_n X (x := A 179) (show cdA 227 322 = some (.aload_n 0, 1, 0, 0, 0) from rfl) (List.Mem.head _) h) ?_
        refine d_liftS (fun k s X h => s_getR X 179 (show cdA 227 323 = some (.getfield 76, 3, 12, 37, 0) from rfl) (by decide) rfl rfl h) ?_
        refine d_lift (fun k ws X h => z_load_n X (x := a) (show cdA 227 326 = some (.iload_n 1, 1, 0, 0, 0) from rfl) (List.Mem.tail _ (List.Mem.head _)) h) ?_
        refine d_zald 258 (show cdA 227 327 = some (.baload, 1, 0, 0, 0) from rfl) (by decide) rfl (by omega) (show a < 128 by omega) (by decide) (hta5001 230 (by decide) _ (show (a).toNat < 128 by omega)) ?_
        have b5003 : (0 : Int) ≤ iC t 230 (a).toNat ∧ iC t 230 (a).toNat ≤ 1 := I.2 230 _ (show (a).toNat < 128 by omega)
        have q5004 : iC t 230 (a).toNat = iC s 230 (a).toNat := fm_c F (by decide)
        refine d_br (by omega) (by omega) (fun k ws X h1 h2 => z_if_ne X (t := 334) (show cdA 227 328 = some (.ifCond .ne 6, 3, 1, 0, 0) from rfl) (by decide) ⟨by omega, by omega⟩ h1 h2) (fun g5005 => ?_) (fun g5005 => ?_)
        ·
          refine d_lift (fun k ws X h => z_aload_n X (x := A 179) (show cdA 227 334 = some (.aload_n 0, 1, 0, 0, 0) from rfl) (List.Mem.head _) h) ?_
          refine d_liftS (fun k s X h => s_getR X 179 (show cdA 227 335 = some (.getfield 32, 3, 12, 21, 0) from rfl) (by decide) rfl rfl h) ?_
          refine d_lift (fun k ws X h => z_const X (show cdA 227 338 = some (.iconst 4, 1, 0, 0, 0) from rfl) h) ?_
          refine d_lift (fun k ws X h => w_dup2_11 X.1 (ax_d X (show cdA 227 339 = some (.dup2, 1, 0, 0, 0) from rfl)) rfl rfl h) ?_
          refine d_ald 184 (show cdA 227 340 = some (.iaload, 1, 0, 0, 0) from rfl) (by decide) rfl (by omega) (show 4 < 7 by omega) (by decide) (hta5001 161 (by decide) _ (show (4 : Int).toNat < 7 by omega)) ?_
          have b5006 : ((-2147483648) : Int) ≤ iC t 161 (4 : Int).toNat ∧ iC t 161 (4 : Int).toNat ≤ 2147483647 := I.2 161 _ (show (4 : Int).toNat < 7 by omega)
          refine d_lift (fun k ws X h => z_const X (show cdA 227 341 = some (.iconst 1, 1, 0, 0, 0) from rfl) h) ?_
          refine d_lift (fun k ws X h => z_add X (show cdA 227 342 = some (.iadd, 1, 0, 0, 0) from rfl) h) ?_
          refine d_any (fun y5007 hy5007 => ?_)
          refine d_ast 184 (show cdA 227 343 = some (.iastore, 1, 0, 0, 0) from rfl) (by decide) rfl (by omega) (show 4 < 7 by omega) (by decide) (show 161 ∈ _ by decide) (show ((-2147483648) : Int) ≤ y5007 ∧ y5007 ≤ 2147483647 by omega) ⟨by omega, by omega⟩ ?_
          refine d_mono (T' := TU T 161 7) (fun _ h => h) (fun _ _ h => Or.inr h) ?_
          obtain ⟨s5008, hs5008⟩ : ∃ x0, x0 = uC t 161 (4 : Int).toNat (Int32.ofInt y5007) := ⟨_, rfl⟩
          rw [← hs5008]
          have Is5008 : Bd s5008 := by rw [hs5008]; exact bd_C I (show ((-2147483648) : Int) ≤ y5007 ∧ y5007 ≤ 2147483647 by omega) ⟨by omega, by omega⟩
          have Fs5008 := fm_C (i := (4 : Int).toNat) (x := Int32.ofInt y5007) F (show 161 ∈ _ by decide)
          rw [← hs5008] at Fs5008
          have fs5008 : Fm [] [161] t s5008 := by rw [hs5008]; exact fm_C (fm_rf _ _ _) (show 161 ∈ _ by decide)
          have JNW_s5008 : NW s5008 := NW_fm fs5008 (by decide) jjNW
          refine d_lift (fun k ws X h => z_aload_n X (x := A 179) (show cdA 227 344 = some (.aload_n 0, 1, 0, 0, 0) from rfl) (List.Mem.head _) h) ?_
          refine d_liftS (fun k s X h => s_getR X 179 (show cdA 227 345 = some (.getfield 32, 3, 12, 21, 0) from rfl) (by decide) rfl rfl h) ?_
          refine d_lift (fun k ws X h => z_const X (show cdA 227 348 = some (.iconst 5, 1, 0, 0, 0) from rfl) h) ?_
          refine d_lift (fun k ws X h => w_dup2_11 X.1 (ax_d X (show cdA 227 349 = some (.dup2, 1, 0, 0, 0) from rfl)) rfl rfl h) ?_
          refine d_ald 184 (show cdA 227 350 = some (.iaload, 1, 0, 0, 0) from rfl) (by decide) rfl (by omega) (show 5 < 7 by omega) (by decide) (hta5001 161 (by decide) _ (show (5 : Int).toNat < 7 by omega)) ?_
          have b5009 : ((-2147483648) : Int) ≤ iC s5008 161 (5 : Int).toNat ∧ iC s5008 161 (5 : Int).toNat ≤ 2147483647 := Is5008.2 161 _ (show (5 : Int).toNat < 7 by omega)
          refine d_lift (fun k ws X h => z_load_n X (x := a) (show cdA 227 351 = some (.iload_n 1, 1, 0, 0, 0) from rfl) (List.Mem.tail _ (List.Mem.head _)) h) ?_
          refine d_lift (fun k ws X h => z_bipush X (show cdA 227 352 = some (.bipush 64, 2, 0, 0, 64) from rfl) h) ?_
          refine d_br (by omega) (by omega) (fun k ws X h1 h2 => z_icmp_ge X (t := 361) (show cdA 227 354 = some (.if_icmp .ge 7, 3, 3, 0, 0) from rfl) (by decide) ⟨by omega, by omega⟩ ⟨by omega, by omega⟩ h1 h2) (fun g5010 => ?_) (fun g5010 => ?_)
          ·
            refine d_lift (fun k ws X h => z_const X (show cdA 227 361 = some (.iconst 0, 1, 0, 0, 0) from rfl) h) ?_
            refine d_lift (fun k ws X h => z_add X (show cdA 227 362 = some (.iadd, 1, 0, 0, 0) from rfl) h) ?_
            refine d_any (fun y5011 hy5011 => ?_)
            refine d_ast 184 (show cdA 227 363 = some (.iastore, 1, 0, 0, 0) from rfl) (by decide) rfl (by omega) (show 5 < 7 by omega) (by decide) (show 161 ∈ _ by decide) (show ((-2147483648) : Int) ≤ y5011 ∧ y5011 ≤ 2147483647 by omega) ⟨by omega, by omega⟩ ?_
            refine d_mono (T' := TU T 161 7) (fun _ h => h) (fun _ _ h => Or.inr h) ?_
            obtain ⟨s5012, hs5012⟩ : ∃ x0, x0 = uC s5008 161 (5 : Int).toNat (Int32.ofInt y5011) := ⟨_, rfl⟩
            rw [← hs5012]
            have Is5012 : Bd s5012 := by rw [hs5012]; exact bd_C Is5008 (show ((-2147483648) : Int) ≤ y5011 ∧ y5011 ≤ 2147483647 by omega) ⟨by omega, by omega⟩
            have Fs5012 := fm_C (i := (5 : Int).toNat) (x := Int32.ofInt y5011) Fs5008 (show 161 ∈ _ by decide)
            rw [← hs5012] at Fs5012
            have fs5012 : Fm [] [161] s5008 s5012 := by rw [hs5012]; exact fm_C (fm_rf _ _ _) (show 161 ∈ _ by decide)
            have JNW_s5012 : NW s5012 := NW_fm fs5012 (by decide) JNW_s5008
            refine d_lift (fun k ws X h => z_inc X (x := a) (lv' := [(1, .int (Int32.ofInt (a + 1))), (0, .ref (A 179))]) (show cdA 227 364 = some (.iinc 1 1, 3, 0, 0, 0) from rfl) (by decide) (List.Mem.tail _ (List.Mem.head _)) (fun _ h => h) h) ?_
            refine d_lift (fun k ws X h => z_goto X (t := 315) (show cdA 227 367 = some (.goto (-52), 3, 0, 0, 0) from rfl) (by decide) h) ?_
            exfalso
            omega
          ·
            refine d_lift (fun k ws X h => z_const X (show cdA 227 357 = some (.iconst 1, 1, 0, 0, 0) from rfl) h) ?_
            refine d_lift (fun k ws X h => z_goto X (t := 362) (show cdA 227 358 = some (.goto 4, 3, 0, 0, 0) from rfl) (by decide) h) ?_
            refine d_lift (fun k ws X h => z_add X (show cdA 227 362 = some (.iadd, 1, 0, 0, 0) from rfl) h) ?_
            refine d_any (fun y5013 hy5013 => ?_)
            refine d_ast 184 (show cdA 227 363 = some (.iastore, 1, 0, 0, 0) from rfl) (by decide) rfl (by omega) (show 5 < 7 by omega) (by decide) (show 161 ∈ _ by decide) (show ((-2147483648) : Int) ≤ y5013 ∧ y5013 ≤ 2147483647 by omega) ⟨by omega, by omega⟩ ?_
            refine d_mono (T' := TU T 161 7) (fun _ h => h) (fun _ _ h => Or.inr h) ?_
            obtain ⟨s5014, hs5014⟩ : ∃ x0, x0 = uC s5008 161 (5 : Int).toNat (Int32.ofInt y5013) := ⟨_, rfl⟩
            rw [← hs5014]
            have Is5014 : Bd s5014 := by rw [hs5014]; exact bd_C Is5008 (show ((-2147483648) : Int) ≤ y5013 ∧ y5013 ≤ 2147483647 by omega) ⟨by omega, by omega⟩
            have Fs5014 := fm_C (i := (5 : Int).toNat) (x := Int32.ofInt y5013) Fs5008 (show 161 ∈ _ by decide)
            rw [← hs5014] at Fs5014
            have fs5014 : Fm [] [161] s5008 s5014 := by rw [hs5014]; exact fm_C (fm_rf _ _ _) (show 161 ∈ _ by decide)
            have JNW_s5014 : NW s5014 := NW_fm fs5014 (by decide) JNW_s5008
            refine d_lift (fun k ws X h => z_inc X (x := a) (lv' := [(1, .int (Int32.ofInt (a + 1))), (0, .ref (A 179))]) (show cdA 227 364 = some (.iinc 1 1, 3, 0, 0, 0) from rfl) (by decide) (List.Mem.tail _ (List.Mem.head _)) (fun _ h => h) h) ?_
            refine d_lift (fun k ws X h => z_goto X (t := 315) (show cdA 227 367 = some (.goto (-52), 3, 0, 0, 0) from rfl) (by decide) h) ?_
            exfalso
            omega
        ·
          refine d_lift (fun k ws X h => z_goto X (t := 364) (show cdA 227 331 = some (.goto 33, 3, 0, 0, 0) from rfl) (by decide) h) ?_
          refine d_lift (fun k ws X h => z_inc X (x := a) (lv' := [(1, .int (Int32.ofInt (a + 1))), (0, .ref (A 179))]) (show cdA 227 364 = some (.iinc 1 1, 3, 0, 0, 0) from rfl) (by decide) (List.Mem.tail _ (List.Mem.head _)) (fun _ h => h) h) ?_
          refine d_lift (fun k ws X h => z_goto X (t := 315) (show cdA 227 367 = some (.goto (-52), 3, 0, 0, 0) from rfl) (by decide) h) ?_
          exfalso
          omega
    | succ n ih =>
      intro t a I F jjNW hi hm kx
      have hta5001 : ∀ a ∈ ([161, 230] : List Nat), ∀ j, j < (bA a).2.2 → (TU T 161 7).2 a j := hta_g hta (by decide)
      refine d_lift (fun k ws X h => z_load_n X (x := a) (show cdA 227 315 = some (.iload_n 1, 1, 0, 0, 0) from rfl) (List.Mem.tail _ (List.Mem.head _)) h) ?_
      refine d_lift (fun k ws X h => z_sipush X (show cdA 227 316 = some (.sipush 128, 3, 0, 0, 128) from rfl) h) ?_
      refine d_br (by omega) (by omega) (fun k ws X h1 h2 => z_icmp_ge X (t := 370) (show cdA 227 319 = some (.if_icmp .ge 51, 3, 3, 0, 0) from rfl) (by decide) ⟨by omega, by omega⟩ ⟨by omega, by omega⟩ h1 h2) (fun g5002 => ?_) (fun g5002 => ?_)
      ·
        refine d_lvs (lv := [(0, .ref (A 179)), (1, .int (Int32.ofInt a))]) (List.forall_mem_cons.mpr ⟨(List.Mem.head _), (List.forall_mem_cons.mpr ⟨(List.Mem.tail _ (List.Mem.head _)), (fun q h => absurd h List.not_mem_nil)⟩)⟩) ?_
        exact kx _ a I F jjNW (by omega)
      ·
        refine d_lift (fun k ws X h => z_aload_n X (x := A 179) (show cdA 227 322 = some (.aload_n 0, 1, 0, 0, 0) from rfl) (List.Mem.head _) h) ?_
        refine d_liftS (fun k s X h => s_getR X 179 (show cdA 227 323 = some (.getfield 76, 3, 12, 37, 0) from rfl) (by decide) rfl rfl h) ?_
        refine d_lift (fun k ws X h => z_load_n X (x := a) (show cdA 227 326 = some (.iload_n 1, 1, 0, 0, 0) from rfl) (List.Mem.tail _ (List.Mem.head _)) h) ?_
        refine d_zald 258 (show cdA 227 327 = some (.baload, 1, 0, 0, 0) from rfl) (by decide) rfl (by omega) (show a < 128 by omega) (by decide) (hta5001 230 (by decide) _ (show (a).toNat < 128 by omega)) ?_
        have b5003 : (0 : Int) ≤ iC t 230 (a).toNat ∧ iC t 230 (a).toNat ≤ 1 := I.2 230 _ (show (a).toNat < 128 by omega)
        have q5004 : iC t 230 (a).toNat = iC s 230 (a).toNat := fm_c F (by decide)
        refine d_br (by omega) (by omega) (fun k ws X h1 h2 => z_if_ne X (t := 334) (show cdA 227 328 = some (.ifCond .ne 6, 3, 1, 0, 0) from rfl) (by decide) ⟨by omega, by omega⟩ h1 h2) (fun g5005 => ?_) (fun g5005 => ?_)
        ·
          refine d_lift (fun k ws X h => z_aload_n X (x := A 179) (show cdA 227 334 = some (.aload_n 0, 1, 0, 0, 0) from rfl) (List.Mem.head _) h) ?_
          refine d_liftS (fun k s X h => s_getR X 179 (show cdA 227 335 = some (.getfield 32, 3, 12, 21, 0) from rfl) (by decide) rfl rfl h) ?_
          refine d_lift (fun k ws X h => z_const X (show cdA 227 338 = some (.iconst 4, 1, 0, 0, 0) from rfl) h) ?_
          refine d_lift (fun k ws X h => w_dup2_11 X.1 (ax_d X (show cdA 227 339 = some (.dup2, 1, 0, 0, 0) from rfl)) rfl rfl h) ?_
          refine d_ald 184 (show cdA 227 340 = some (.iaload, 1, 0, 0, 0) from rfl) (by decide) rfl (by omega) (show 4 < 7 by omega) (by decide) (hta5001 161 (by decide) _ (show (4 : Int).toNat < 7 by omega)) ?_
          have b5006 : ((-2147483648) : Int) ≤ iC t 161 (4 : Int).toNat ∧ iC t 161 (4 : Int).toNat ≤ 2147483647 := I.2 161 _ (show (4 : Int).toNat < 7 by omega)
          refine d_lift (fun k ws X h => z_const X (show cdA 227 341 = some (.iconst 1, 1, 0, 0, 0) from rfl) h) ?_
          refine d_lift (fun k ws X h => z_add X (show cdA 227 342 = some (.iadd, 1, 0, 0, 0) from rfl) h) ?_
          refine d_any (fun y5007 hy5007 => ?_)
          refine d_ast 184 (show cdA 227 343 = some (.iastore, 1, 0, 0, 0) from rfl) (by decide) rfl (by omega) (show 4 < 7 by omega) (by decide) (show 161 ∈ _ by decide) (show ((-2147483648) : Int) ≤ y5007 ∧ y5007 ≤ 2147483647 by omega) ⟨by omega, by omega⟩ ?_
          refine d_mono (T' := TU T 161 7) (fun _ h => h) (fun _ _ h => Or.inr h) ?_
          obtain ⟨s5008, hs5008⟩ : ∃ x0, x0 = uC t 161 (4 : Int).toNat (Int32.ofInt y5007) := ⟨_, rfl⟩
          rw [← hs5008]
          have Is5008 : Bd s5008 := by rw [hs5008]; exact bd_C I (show ((-2147483648) : Int) ≤ y5007 ∧ y5007 ≤ 2147483647 by omega) ⟨by omega, by omega⟩
          have Fs5008 := fm_C (i := (4 : Int).toNat) (x := Int32.ofInt y5007) F (show 161 ∈ _ by decide)
          rw [← hs5008] at Fs5008
          have fs5008 : Fm [] [161] t s5008 := by rw [hs5008]; exact fm_C (fm_rf _ _ _) (show 161 ∈ _ by decide)
          have JNW_s5008 : NW s5008 := NW_fm fs5008 (by decide) jjNW
          refine d_lift (fun k ws X h => z_aload_n X (x := A 179) (show cdA 227 344 = some (.aload_n 0, 1, 0, 0, 0) from rfl) (List.Mem.head _) h) ?_
          refine d_liftS (fun k s X h => s_getR X 179 (show cdA 227 345 = some (.getfield 32, 3, 12, 21, 0) from rfl) (by decide) rfl rfl h) ?_
          refine d_lift (fun k ws X h => z_const X (show cdA 227 348 = some (.iconst 5, 1, 0, 0, 0) from rfl) h) ?_
          refine d_lift (fun k ws X h => w_dup2_11 X.1 (ax_d X (show cdA 227 349 = some (.dup2, 1, 0, 0, 0) from rfl)) rfl rfl h) ?_
          refine d_ald 184 (show cdA 227 350 = some (.iaload, 1, 0, 0, 0) from rfl) (by decide) rfl (by omega) (show 5 < 7 by omega) (by decide) (hta5001 161 (by decide) _ (show (5 : Int).toNat < 7 by omega)) ?_
          have b5009 : ((-2147483648) : Int) ≤ iC s5008 161 (5 : Int).toNat ∧ iC s5008 161 (5 : Int).toNat ≤ 2147483647 := Is5008.2 161 _ (show (5 : Int).toNat < 7 by omega)
          refine d_lift (fun k ws X h => z_load_n X (x := a) (show cdA 227 351 = some (.iload_n 1, 1, 0, 0, 0) from rfl) (List.Mem.tail _ (List.Mem.head _)) h) ?_
          refine d_lift (fun k ws X h => z_bipush X (show cdA 227 352 = some (.bipush 64, 2, 0, 0, 64) from rfl) h) ?_
          refine d_br (by omega) (by omega) (fun k ws X h1 h2 => z_icmp_ge X (t := 361) (show cdA 227 354 = some (.if_icmp .ge 7, 3, 3, 0, 0) from rfl) (by decide) ⟨by omega, by omega⟩ ⟨by omega, by omega⟩ h1 h2) (fun g5010 => ?_) (fun g5010 => ?_)
          ·
            refine d_lift (fun k ws X h => z_const X (show cdA 227 361 = some (.iconst 0, 1, 0, 0, 0) from rfl) h) ?_
            refine d_lift (fun k ws X h => z_add X (show cdA 227 362 = some (.iadd, 1, 0, 0, 0) from rfl) h) ?_
            refine d_any (fun y5011 hy5011 => ?_)
            refine d_ast 184 (show cdA 227 363 = some (.iastore, 1, 0, 0, 0) from rfl) (by decide) rfl (by omega) (show 5 < 7 by omega) (by decide) (show 161 ∈ _ by decide) (show ((-2147483648) : Int) ≤ y5011 ∧ y5011 ≤ 2147483647 by omega) ⟨by omega, by omega⟩ ?_
            refine d_mono (T' := TU T 161 7) (fun _ h => h) (fun _ _ h => Or.inr h) ?_
            obtain ⟨s5012, hs5012⟩ : ∃ x0, x0 = uC s5008 161 (5 : Int).toNat (Int32.ofInt y5011) := ⟨_, rfl⟩
            rw [← hs5012]
            have Is5012 : Bd s5012 := by rw [hs5012]; exact bd_C Is5008 (show ((-2147483648) : Int) ≤ y5011 ∧ y5011 ≤ 2147483647 by omega) ⟨by omega, by omega⟩
            have Fs5012 := fm_C (i := (5 : Int).toNat) (x := Int32.ofInt y5011) Fs5008 (show 161 ∈ _ by decide)
            rw [← hs5012] at Fs5012
            have fs5012 : Fm [] [161] s5008 s5012 := by rw [hs5012]; exact fm_C (fm_rf _ _ _) (show 161 ∈ _ by decide)
            have JNW_s5012 : NW s5012 := NW_fm fs5012 (by decide) JNW_s5008
            refine d_lift (fun k ws X h => z_inc X (x := a) (lv' := [(1, .int (Int32.ofInt (a + 1))), (0, .ref (A 179))]) (show cdA 227 364 = some (.iinc 1 1, 3, 0, 0, 0) from rfl) (by decide) (List.Mem.tail _ (List.Mem.head _)) (fun _ h => h) h) ?_
            refine d_lift (fun k ws X h => z_goto X (t := 315) (show cdA 227 367 = some (.goto (-52), 3, 0, 0, 0) from rfl) (by decide) h) ?_
            refine d_lvs (lv := [(0, .ref (A 179)), (1, .int (Int32.ofInt (a + 1)))]) (List.forall_mem_cons.mpr ⟨(List.Mem.tail _ (List.Mem.head _)), (List.forall_mem_cons.mpr ⟨(List.Mem.head _), (fun q h => absurd h List.not_mem_nil)⟩)⟩) ?_
            exact ih _ (a + 1) Is5012 Fs5012 JNW_s5012 (by omega) (by omega) kx
          ·
            refine d_lift (fun k ws X h => z_const X (show cdA 227 357 = some (.iconst 1, 1, 0, 0, 0) from rfl) h) ?_
            refine d_lift (fun k ws X h => z_goto X (t := 362) (show cdA 227 358 = some (.goto 4, 3, 0, 0, 0) from rfl) (by decide) h) ?_
            refine d_lift (fun k ws X h => z_add X (show cdA 227 362 = some (.iadd, 1, 0, 0, 0) from rfl) h) ?_
            refine d_any (fun y5013 hy5013 => ?_)
            refine d_ast 184 (show cdA 227 363 = some (.iastore, 1, 0, 0, 0) from rfl) (by decide) rfl (by omega) (show 5 < 7 by omega) (by decide) (show 161 ∈ _ by decide) (show ((-2147483648) : Int) ≤ y5013 ∧ y5013 ≤ 2147483647 by omega) ⟨by omega, by omega⟩ ?_
            refine d_mono (T' := TU T 161 7) (fun _ h => h) (fun _ _ h => Or.inr h) ?_
            obtain ⟨s5014, hs5014⟩ : ∃ x0, x0 = uC s5008 161 (5 : Int).toNat (Int32.ofInt y5013) := ⟨_, rfl⟩
            rw [← hs5014]
            have Is5014 : Bd s5014 := by rw [hs5014]; exact bd_C Is5008 (show ((-2147483648) : Int) ≤ y5013 ∧ y5013 ≤ 2147483647 by omega) ⟨by omega, by omega⟩
            have Fs5014 := fm_C (i := (5 : Int).toNat) (x := Int32.ofInt y5013) Fs5008 (show 161 ∈ _ by decide)
            rw [← hs5014] at Fs5014
            have fs5014 : Fm [] [161] s5008 s5014 := by rw [hs5014]; exact fm_C (fm_rf _ _ _) (show 161 ∈ _ by decide)
            have JNW_s5014 : NW s5014 := NW_fm fs5014 (by decide) JNW_s5008
            refine d_lift (fun k ws X h => z_inc X (x := a) (lv' := [(1, .int (Int32.ofInt (a + 1))), (0, .ref (A 179))]) (show cdA 227 364 = some (.iinc 1 1, 3, 0, 0, 0) from rfl) (by decide) (List.Mem.tail _ (List.Mem.head _)) (fun _ h => h) h) ?_
            refine d_lift (fun k ws X h => z_goto X (t := 315) (show cdA 227 367 = some (.goto (-52), 3, 0, 0, 0) from rfl) (by decide) h) ?_
            refine d_lvs (lv := [(0, .ref (A 179)), (1, .int (Int32.ofInt (a + 1)))]) (List.forall_mem_cons.mpr ⟨(List.Mem.tail _ (List.Mem.head _)), (List.forall_mem_cons.mpr ⟨(List.Mem.head _), (fun q h => absurd h List.not_mem_nil)⟩)⟩) ?_
            exact ih _ (a + 1) Is5014 Fs5014 JNW_s5014 (by omega) (by omega) kx
        ·
          refine d_lift (fun k ws X h => z_goto X (t := 364) (show cdA 227 331 = some (.goto 33, 3, 0, 0, 0) from rfl) (by decide) h) ?_
          refine d_lift (fun k ws X h => z_inc X (x := a) (lv' := [(1, .int (Int32.ofInt (a + 1))), (0, .ref (A 179))]) (show cdA 227 364 = some (.iinc 1 1, 3, 0, 0, 0) from rfl) (by decide) (List.Mem.tail _ (List.Mem.head _)) (fun _ h => h) h) ?_
          refine d_lift (fun k ws X h => z_goto X (t := 315) (show cdA 227 367 = some (.goto (-52), 3, 0, 0, 0) from rfl) (by decide) h) ?_
          refine d_lvs (lv := [(0, .ref (A 179)), (1, .int (Int32.ofInt (a + 1)))]) (List.forall_mem_cons.mpr ⟨(List.Mem.tail _ (List.Mem.head _)), (List.forall_mem_cons.mpr ⟨(List.Mem.head _), (fun q h => absurd h List.not_mem_nil)⟩)⟩) ?_
          exact ih _ (a + 1) I F jjNW (by omega) (by omega) kx
  refine d_lift (fun k ws X h => z_const X (show cdA 227 0 = some (.iconst 0, 1, 0, 0, 0) from rfl) h) ?_
  refine d_lift (fun k ws X h => z_store_n X (lv' := [(1, .int (Int32.ofInt 0)), (0, .ref (A 179))]) (show cdA 227 1 = some (.istore_n 1, 1, 0, 0, 0) from rfl) (by decide) (fun _ h => h) h) ?_
  refine d_lvs (lv := [(0, .ref (A 179)), (1, .int (Int32.ofInt 0))]) (List.forall_mem_cons.mpr ⟨(List.Mem.tail _ (List.Mem.head _)), (List.forall_mem_cons.mpr ⟨(List.Mem.head _), (fun q h => absurd h List.not_mem_nil)⟩)⟩) ?_
  refine d_mono (T' := TU T 161 0) (fun _ h => h) (TU_0 (by omega)) ?_
  refine L2 ((7 - 0 : Int)).toNat s 0 I F jNW (by omega) (by omega) ?_
  intro s1 x2 Is1 Fs1 JNW_s1 hs1
  refine d_mono (T' := TU T 161 7) (fun _ h => h) (TU_le (by omega)) ?_
  have hta3 : ∀ a ∈ ([161, 230] : List Nat), ∀ j, j < (bA a).2.2 → (TU T 161 7).2 a j := hta_g hta (by decide)
  refine d_lift (fun k ws X h => z_const X (show cdA 227 21 = some (.iconst 0, 1, 0, 0, 0) from rfl) h) ?_
  refine d_lift (fun k ws X h => z_store_n X (lv' := [(1, .int (Int32.ofInt 0)), (0, .ref (A 179))]) (show cdA 227 22 = some (.istore_n 1, 1, 0, 0, 0) from rfl) (by decide) (fun _ h => h) h) ?_
  refine d_lvs (lv := [(0, .ref (A 179)), (1, .int (Int32.ofInt 0))]) (List.forall_mem_cons.mpr ⟨(List.Mem.tail _ (List.Mem.head _)), (List.forall_mem_cons.mpr ⟨(List.Mem.head _), (fun q h => absurd h List.not_mem_nil)⟩)⟩) ?_
  refine L23 ((12 - 0 : Int)).toNat s1 0 Is1 Fs1 JNW_s1 (by omega) (by omega) ?_
  intro s4 x5 Is4 Fs4 JNW_s4 hs4
  have hta6 : ∀ a ∈ ([161, 230] : List Nat), ∀ j, j < (bA a).2.2 → (TU T 161 7).2 a j := hta_g hta (by decide)
  refine d_lift (fun k ws X h => z_const X (show cdA 227 313 = some (.iconst 0, 1, 0, 0, 0) from rfl) h) ?_
  refine d_lift (fun k ws X h => z_store_n X (lv' := [(1, .int (Int32.ofInt 0)), (0, .ref (A 179))]) (show cdA 227 314 = some (.istore_n 1, 1, 0, 0, 0) from rfl) (by decide) (fun _ h => h) h) ?_
  refine d_lvs (lv := [(0, .ref (A 179)), (1, .int (Int32.ofInt 0))]) (List.forall_mem_cons.mpr ⟨(List.Mem.tail _ (List.Mem.head _)), (List.forall_mem_cons.mpr ⟨(List.Mem.head _), (fun q h => absurd h List.not_mem_nil)⟩)⟩) ?_
  refine L315 ((128 - 0 : Int)).toNat s4 0 Is4 Fs4 JNW_s4 (by omega) (by omega) ?_
  intro s7 x8 Is7 Fs7 JNW_s7 hs7
  have hta9 : ∀ a ∈ ([161, 230] : List Nat), ∀ j, j < (bA a).2.2 → (TU T 161 7).2 a j := hta_g hta (by decide)
  refine d_lift (fun k ws X h => z_aload_n X (x := A 179) (show cdA 227 370 = some (.aload_n 0, 1, 0, 0, 0) from rfl) (List.Mem.head _) h) ?_
  refine d_liftS (fun k s X h => s_getR X 179 (show cdA 227 371 = some (.getfield 32, 3, 12, 21, 0) from rfl) (by decide) rfl rfl h) ?_
  refine d_lift (fun k ws X h => z_bipush X (show cdA 227 374 = some (.bipush 6, 2, 0, 0, 6) from rfl) h) ?_
  refine d_lift (fun k ws X h => z_aload_n X (x := A 179) (show cdA 227 376 = some (.aload_n 0, 1, 0, 0, 0) from rfl) (List.Mem.head _) h) ?_
  refine d_getI 179 (show cdA 227 377 = some (.getfield 26, 3, 12, 19, 0) from rfl) (by decide) rfl rfl (hti 89 (by decide)) ?_
  have b10 : (1 : Int) ≤ iI s7 89 ∧ iI s7 89 ≤ 8 := Is7.1 89
  have q11 : iI s7 89 = iI s 89 := fm_i Fs7 (by decide)
  refine d_ast 184 (show cdA 227 380 = some (.iastore, 1, 0, 0, 0) from rfl) (by decide) rfl (by omega) (show 6 < 7 by omega) (by decide) (show 161 ∈ _ by decide) (show ((-2147483648) : Int) ≤ (iI s7 89) ∧ (iI s7 89) ≤ 2147483647 by omega) ⟨by omega, by omega⟩ ?_
  refine d_mono (T' := TU T 161 7) (fun _ h => h) (fun _ _ h => Or.inr h) ?_
  obtain ⟨s12, hs12⟩ : ∃ x0, x0 = uC s7 161 (6 : Int).toNat (Int32.ofInt (iI s7 89)) := ⟨_, rfl⟩
  rw [← hs12]
  have Is12 : Bd s12 := by rw [hs12]; exact bd_C Is7 (show ((-2147483648) : Int) ≤ (iI s7 89) ∧ (iI s7 89) ≤ 2147483647 by omega) ⟨by omega, by omega⟩
  have Fs12 := fm_C (i := (6 : Int).toNat) (x := Int32.ofInt (iI s7 89)) Fs7 (show 161 ∈ _ by decide)
  rw [← hs12] at Fs12
  have fs12 : Fm [] [161] s7 s12 := by rw [hs12]; exact fm_C (fm_rf _ _ _) (show 161 ∈ _ by decide)
  have JNW_s12 : NW s12 := NW_fm fs12 (by decide) JNW_s7
  exact d_vret rfl (show cdA 227 381 = some (.return_, 1, 0, 0, 0) from rfl) (fun _ h => h) (hQ _ _ ⟨Is12, Fs12, JNW_s12, rfl, trivial⟩)
end M46
