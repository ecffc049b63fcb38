theorem oq_1f66d2f3 {a0 : Int} (h0 : a0 = (-1)) : (-2147483648) ≤ a0 := by omega
theorem oq_ffe94409 {a0 : Int} (h0 : a0 = (-1)) : a0 ≤ 2147483647 := by omega
def SB (c : Int) (s : PS) : Prop := bJ (if c < 64 then gJ s 0 else gJ s 1) (c.toNat % 64)
def SBS (s t : PS) : Prop := gJ t 0 = gJ s 0 ∧ gJ t 1 = gJ s 1
theorem sb_lo {x : Int} {s : PS} (h : 0 ≤ x ∧ x < 64) : SB x s ↔ bJ (gJ s 0) x.toNat := by
  unfold SB
  rw [if_pos h.2, Nat.mod_eq_of_lt (by omega)]
theorem sb_hi {x : Int} {s : PS} (h : 64 ≤ x ∧ x ≤ 127) : SB x s ↔ bJ (gJ s 1) (x - 64).toNat := by
  unfold SB
  rw [if_neg (by omega), show x.toNat % 64 = (x - 64).toNat by omega]
theorem sb_of {x : Int} {s : PS} (h : 0 ≤ x ∧ x ≤ 127) {w : Int64} (hw : (x < 64 ∧ w = gJ s 0) ∨ (64 ≤ x ∧ w = gJ s 1)) : (jushr w (x % 64) &&& 1) = 0 ↔ ¬ SB x s := by
  rw [jb_0 (by omega)]
  rcases hw with ⟨h1, h2⟩ | ⟨h1, h2⟩
  · rw [sb_lo ⟨h.1, h1⟩, h2, show (x % 64).toNat = x.toNat by omega]
  · rw [sb_hi ⟨h1, h.2⟩, h2, show (x % 64).toNat = (x - 64).toNat by omega]
def SEQ (s : PS) : Prop := ∀ c : Int, 0 ≤ c → c ≤ 127 → (SB c s ↔ iC s 399 c.toNat = 1)
theorem sbs_fm {L M : List Nat} {s t : PS} (F : Fm L M s t) (h : 1000 ∉ L ∧ 1001 ∉ L) : SBS s t := ⟨fm_jj (k := 0) F h.1, fm_jj (k := 1) F h.2⟩
theorem sb_s {s t : PS} (h : SBS s t) (c : Int) : SB c t ↔ SB c s := by unfold SB; rw [h.1, h.2]
section AD_
variable {l : Launch} {s0 : State} {D : va_G} {tys : List (ClassId × FieldType)} {a0 : Array Value} {A : Nat → Nat} {dT : Nat → ClassId} {s : PS}
set_option maxRecDepth 4000 in
theorem c8_isShut2 (G : GX l s0 D tys a0 dT) (I : Bd s) {x : Int} (p0 : 0 ≤ x ∧ x ≤ 127) : CT l s0 D A dT 88 (rmN 88) [.ref (A 67), .int (Int32.ofInt x)] s (fun o t => s = t ∧ ∃ e, o = .inl (some (.int (Int32.ofInt e))) ∧ rng e ∧ (((e = 1 ∧ SB x s) ∨ (e = 0 ∧ ¬ SB x s)))) := by
  refine ct_ofX G (by decide) (Nat.le_of_ble_eq_true rfl) (fun k X E ET hRt hXt q => ?_)
  show WS k 0 [(0, .ref (A 67)), (1, .int (Int32.ofInt x))] [] _ 0 0
  have F : Fm [] [] s s := fm_rf _ _ s
  refine z_load_n X (x := x) rfl (List.Mem.tail _ (List.Mem.head _)) (z_bipush X rfl (z_icmp_ge X (t := 13) rfl rfl ⟨by first | exact oq_fa4e5087 p0.1 | omega, by first | exact oq_07d346ce p0.2 | omega⟩ (by decide) (fun g1 => ?_) (fun g1 => ?_)))
  ·
    refine z_aload_n X (x := A 67) rfl (List.Mem.head _) (s_getJ X 67 rfl (c518_ok rfl) rfl rfl (z_load_n X (x := x) rfl (List.Mem.tail _ (List.Mem.head _)) (z_bipush X rfl (z_and63 X rfl (by omega) (z_jushr X rfl (w_lconst X.1 (ax_d X (show cdA 88 22 = some (.lconst 1, 1, 0, 0, 0) from rfl)) (z := (1 : Int64)) (by decide) (w_land X.1 (ax_d X (show cdA 88 23 = some (.land, 1, 0, 0, 0) from rfl)) (w_lconst X.1 (ax_d X (show cdA 88 24 = some (.lconst 0, 1, 0, 0, 0) from rfl)) (z := (0 : Int64)) (by decide) (z_jcmp X rfl (fun z2 => ?_) (fun z2 c3 hc3 ic3 => ?_))))))))))
    ·
      refine z_if_eq X (t := 33) rfl rfl (by decide) (fun g4 => ?_) (fun g4 => ?_)
      ·
        refine z_const X rfl ?_
        exact w_iret X.1 q hRt (nar_ret (by first | exact Or.inl (by decide) | omega)) (ax_d X (show cdA 88 34 = some (.ireturn, 1, 0, 0, 0) from rfl)) (Nat.zero_le _) (Nat.zero_le _) ⟨_, rfl, rfl, 0, rfl, (by decide), Or.inr ⟨rfl, (sb_of (by omega) (Or.inr ⟨by omega, rfl⟩)).mp z2⟩⟩
      ·
        exfalso
        omega
    ·
      refine z_if_eq X (t := 33) rfl rfl ⟨by omega, by omega⟩ (fun g5 => ?_) (fun g5 => ?_)
      ·
        refine z_const X rfl ?_
        exact w_iret X.1 q hRt (nar_ret (by first | exact Or.inl (by decide) | omega)) (ax_d X (show cdA 88 34 = some (.ireturn, 1, 0, 0, 0) from rfl)) (Nat.zero_le _) (Nat.zero_le _) ⟨_, rfl, rfl, 0, rfl, (by decide), by omega⟩
      ·
        refine z_const X rfl (z_goto X (t := 34) rfl rfl ?_)
        exact w_iret X.1 q hRt (nar_ret (by first | exact Or.inr (by decide) | omega)) (ax_d X (show cdA 88 34 = some (.ireturn, 1, 0, 0, 0) from rfl)) (Nat.zero_le _) (Nat.zero_le _) ⟨_, rfl, rfl, 1, rfl, (by decide), Or.inl ⟨rfl, Classical.byContradiction (fun q => z2 ((sb_of (by first | (clear g5; omega) | omega) (Or.inr ⟨by first | (clear g5; omega) | omega, rfl⟩)).mpr q))⟩⟩
  ·
    refine z_aload_n X (x := A 67) rfl (List.Mem.head _) (s_getJ X 67 rfl (c518_ok rfl) rfl rfl (z_goto X (t := 17) rfl rfl (z_load_n X (x := x) rfl (List.Mem.tail _ (List.Mem.head _)) (z_bipush X rfl (z_and63 X rfl (by omega) (z_jushr X rfl (w_lconst X.1 (ax_d X (show cdA 88 22 = some (.lconst 1, 1, 0, 0, 0) from rfl)) (z := (1 : Int64)) (by decide) (w_land X.1 (ax_d X (show cdA 88 23 = some (.land, 1, 0, 0, 0) from rfl)) (w_lconst X.1 (ax_d X (show cdA 88 24 = some (.lconst 0, 1, 0, 0, 0) from rfl)) (z := (0 : Int64)) (by decide) (z_jcmp X rfl (fun z6 => ?_) (fun z6 c7 hc7 ic7 => ?_)))))))))))
    ·
      refine z_if_eq X (t := 33) rfl rfl (by decide) (fun g8 => ?_) (fun g8 => ?_)
      ·
        refine z_const X rfl ?_
        exact w_iret X.1 q hRt (nar_ret (by first | exact Or.inl (by decide) | omega)) (ax_d X (show cdA 88 34 = some (.ireturn, 1, 0, 0, 0) from rfl)) (Nat.zero_le _) (Nat.zero_le _) ⟨_, rfl, rfl, 0, rfl, (by decide), Or.inr ⟨rfl, (sb_of (by omega) (Or.inl ⟨by omega, rfl⟩)).mp z6⟩⟩
      ·
        exfalso
        omega
    ·
      refine z_if_eq X (t := 33) rfl rfl ⟨by omega, by omega⟩ (fun g9 => ?_) (fun g9 => ?_)
      ·
        refine z_const X rfl ?_
        exact w_iret X.1 q hRt (nar_ret (by first | exact Or.inl (by decide) | omega)) (ax_d X (show cdA 88 34 = some (.ireturn, 1, 0, 0, 0) from rfl)) (Nat.zero_le _) (Nat.zero_le _) ⟨_, rfl, rfl, 0, rfl, (by decide), by omega⟩
      ·
        refine z_const X rfl (z_goto X (t := 34) rfl rfl ?_)
        exact w_iret X.1 q hRt (nar_ret (by first | exact Or.inr (by decide) | omega)) (ax_d X (show cdA 88 34 = some (.ireturn, 1, 0, 0, 0) from rfl)) (Nat.zero_le _) (Nat.zero_le _) ⟨_, rfl, rfl, 1, rfl, (by decide), Or.inl ⟨rfl, Classical.byContradiction (fun q => z6 ((sb_of (by first | (clear g9; omega) | omega) (Or.inl ⟨by first | (clear g9; omega) | omega, rfl⟩)).mpr q))⟩⟩
end AD_
