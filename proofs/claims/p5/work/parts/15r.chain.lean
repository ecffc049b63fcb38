/-! The chain of the run -/
section RCH
variable {k : kx_T} {dT : Nat → ClassId} {a0 : Array Value} {b : Nat} {xs : Nat → Int32}
theorem wle_R : wle wB0 wH0 := wle_BH
theorem len_R : 156 ≤ (wE wH0).length := by
  show 156 ≤ e6.length
  rw [e6_len]
  exact Nat.le_refl _
theorem gs_r32 (X : LX k dT a0 b 156 xs) {v : VL} (h1 : vO v 0 = b) (h2 : ∀ z, z < 156 → vI v z = xs z) : GS k (cxS htN 156) 350 350 dT wH0 v rS_32 := law_run (ct_no (h := htN) rfl) X (Nat.le_refl _) sg_r32 wle_R (by decide) len_R h1 h2
theorem gs_r31 (X : LX k dT a0 b 156 xs) {v : VL} (h1 : vO v 0 = b) (h2 : ∀ z, z < 156 → vI v z = xs z) : GS k (cxS htN 156) 350 350 dT wH0 v rS_31 := law_seg (ct_no (h := htN) rfl) X (Nat.le_refl _) sg_r31 (fun t ht => by
    have e := stE_ok ht
    subst e
    exact gs_r32 X h1 h2) wle_R (by decide) len_R h1 h2
theorem gs_r30 (X : LX k dT a0 b 156 xs) {v : VL} (h1 : vO v 0 = b) (h2 : ∀ z, z < 156 → vI v z = xs z) : GS k (cxS htN 156) 350 350 dT wH0 v rS_30 := law_seg (ct_no (h := htN) rfl) X (Nat.le_refl _) sg_r30 (fun t ht => by
    have e := stE_ok ht
    subst e
    exact gs_r31 X h1 h2) wle_R (by decide) len_R h1 h2
theorem gs_r29 (X : LX k dT a0 b 156 xs) {v : VL} (h1 : vO v 0 = b) (h2 : ∀ z, z < 156 → vI v z = xs z) : GS k (cxS htN 156) 350 350 dT wH0 v rS_29 := law_seg (ct_no (h := htN) rfl) X (Nat.le_refl _) sg_r29 (fun t ht => by
    have e := stE_ok ht
    subst e
    exact gs_r30 X h1 h2) wle_R (by decide) len_R h1 h2
theorem gs_r28 (X : LX k dT a0 b 156 xs) {v : VL} (h1 : vO v 0 = b) (h2 : ∀ z, z < 156 → vI v z = xs z) : GS k (cxS htN 156) 350 350 dT wH0 v rS_28 := law_seg (ct_no (h := htN) rfl) X (Nat.le_refl _) sg_r28 (fun t ht => by
    have e := stE_ok ht
    subst e
    exact gs_r29 X h1 h2) wle_R (by decide) len_R h1 h2
theorem gs_r27 (X : LX k dT a0 b 156 xs) {v : VL} (h1 : vO v 0 = b) (h2 : ∀ z, z < 156 → vI v z = xs z) : GS k (cxS htN 156) 350 350 dT wH0 v rS_27 := law_seg (ct_no (h := htN) rfl) X (Nat.le_refl _) sg_r27 (fun t ht => by
    have e := stE_ok ht
    subst e
    exact gs_r28 X h1 h2) wle_R (by decide) len_R h1 h2
theorem gs_r26 (X : LX k dT a0 b 156 xs) {v : VL} (h1 : vO v 0 = b) (h2 : ∀ z, z < 156 → vI v z = xs z) : GS k (cxS htN 156) 350 350 dT wH0 v rS_26 := law_seg (ct_no (h := htN) rfl) X (Nat.le_refl _) sg_r26 (fun t ht => by
    have e := stE_ok ht
    subst e
    exact gs_r27 X h1 h2) wle_R (by decide) len_R h1 h2
theorem gs_r25 (X : LX k dT a0 b 156 xs) {v : VL} (h1 : vO v 0 = b) (h2 : ∀ z, z < 156 → vI v z = xs z) : GS k (cxS htN 156) 350 350 dT wH0 v rS_25 := law_seg (ct_no (h := htN) rfl) X (Nat.le_refl _) sg_r25 (fun t ht => by
    have e := stE_ok ht
    subst e
    exact gs_r26 X h1 h2) wle_R (by decide) len_R h1 h2
theorem gs_r24 (X : LX k dT a0 b 156 xs) {v : VL} (h1 : vO v 0 = b) (h2 : ∀ z, z < 156 → vI v z = xs z) : GS k (cxS htN 156) 350 350 dT wH0 v rS_24 := law_seg (ct_no (h := htN) rfl) X (Nat.le_refl _) sg_r24 (fun t ht => by
    have e := stE_ok ht
    subst e
    exact gs_r25 X h1 h2) wle_R (by decide) len_R h1 h2
theorem gs_r23 (X : LX k dT a0 b 156 xs) {v : VL} (h1 : vO v 0 = b) (h2 : ∀ z, z < 156 → vI v z = xs z) : GS k (cxS htN 156) 350 350 dT wH0 v rS_23 := law_seg (ct_no (h := htN) rfl) X (Nat.le_refl _) sg_r23 (fun t ht => by
    have e := stE_ok ht
    subst e
    exact gs_r24 X h1 h2) wle_R (by decide) len_R h1 h2
theorem gs_r22 (X : LX k dT a0 b 156 xs) {v : VL} (h1 : vO v 0 = b) (h2 : ∀ z, z < 156 → vI v z = xs z) : GS k (cxS htN 156) 350 350 dT wH0 v rS_22 := law_seg (ct_no (h := htN) rfl) X (Nat.le_refl _) sg_r22 (fun t ht => by
    have e := stE_ok ht
    subst e
    exact gs_r23 X h1 h2) wle_R (by decide) len_R h1 h2
theorem gs_r21 (X : LX k dT a0 b 156 xs) {v : VL} (h1 : vO v 0 = b) (h2 : ∀ z, z < 156 → vI v z = xs z) : GS k (cxS htN 156) 350 350 dT wH0 v rS_21 := law_seg (ct_no (h := htN) rfl) X (Nat.le_refl _) sg_r21 (fun t ht => by
    have e := stE_ok ht
    subst e
    exact gs_r22 X h1 h2) wle_R (by decide) len_R h1 h2
theorem gs_r20 (X : LX k dT a0 b 156 xs) {v : VL} (h1 : vO v 0 = b) (h2 : ∀ z, z < 156 → vI v z = xs z) : GS k (cxS htN 156) 350 350 dT wH0 v rS_20 := law_seg (ct_no (h := htN) rfl) X (Nat.le_refl _) sg_r20 (fun t ht => by
    have e := stE_ok ht
    subst e
    exact gs_r21 X h1 h2) wle_R (by decide) len_R h1 h2
theorem gs_r19 (X : LX k dT a0 b 156 xs) {v : VL} (h1 : vO v 0 = b) (h2 : ∀ z, z < 156 → vI v z = xs z) : GS k (cxS htN 156) 350 350 dT wH0 v rS_19 := law_seg (ct_no (h := htN) rfl) X (Nat.le_refl _) sg_r19 (fun t ht => by
    have e := stE_ok ht
    subst e
    exact gs_r20 X h1 h2) wle_R (by decide) len_R h1 h2
theorem gs_r18 (X : LX k dT a0 b 156 xs) {v : VL} (h1 : vO v 0 = b) (h2 : ∀ z, z < 156 → vI v z = xs z) : GS k (cxS htN 156) 350 350 dT wH0 v rS_18 := law_seg (ct_no (h := htN) rfl) X (Nat.le_refl _) sg_r18 (fun t ht => by
    have e := stE_ok ht
    subst e
    exact gs_r19 X h1 h2) wle_R (by decide) len_R h1 h2
theorem gs_r17 (X : LX k dT a0 b 156 xs) {v : VL} (h1 : vO v 0 = b) (h2 : ∀ z, z < 156 → vI v z = xs z) : GS k (cxS htN 156) 350 350 dT wH0 v rS_17 := law_seg (ct_no (h := htN) rfl) X (Nat.le_refl _) sg_r17 (fun t ht => by
    have e := stE_ok ht
    subst e
    exact gs_r18 X h1 h2) wle_R (by decide) len_R h1 h2
theorem gs_r16 (X : LX k dT a0 b 156 xs) {v : VL} (h1 : vO v 0 = b) (h2 : ∀ z, z < 156 → vI v z = xs z) : GS k (cxS htN 156) 350 350 dT wH0 v rS_16 := law_seg (ct_no (h := htN) rfl) X (Nat.le_refl _) sg_r16 (fun t ht => by
    have e := stE_ok ht
    subst e
    exact gs_r17 X h1 h2) wle_R (by decide) len_R h1 h2
theorem gs_r15 (X : LX k dT a0 b 156 xs) {v : VL} (h1 : vO v 0 = b) (h2 : ∀ z, z < 156 → vI v z = xs z) : GS k (cxS htN 156) 350 350 dT wH0 v rS_15 := law_seg (ct_no (h := htN) rfl) X (Nat.le_refl _) sg_r15 (fun t ht => by
    have e := stE_ok ht
    subst e
    exact gs_r16 X h1 h2) wle_R (by decide) len_R h1 h2
theorem gs_r14 (X : LX k dT a0 b 156 xs) {v : VL} (h1 : vO v 0 = b) (h2 : ∀ z, z < 156 → vI v z = xs z) : GS k (cxS htN 156) 350 350 dT wH0 v rS_14 := law_seg (ct_no (h := htN) rfl) X (Nat.le_refl _) sg_r14 (fun t ht => by
    have e := stE_ok ht
    subst e
    exact gs_r15 X h1 h2) wle_R (by decide) len_R h1 h2
theorem gs_r13 (X : LX k dT a0 b 156 xs) {v : VL} (h1 : vO v 0 = b) (h2 : ∀ z, z < 156 → vI v z = xs z) : GS k (cxS htN 156) 350 350 dT wH0 v rS_13 := law_seg (ct_no (h := htN) rfl) X (Nat.le_refl _) sg_r13 (fun t ht => by
    have e := stE_ok ht
    subst e
    exact gs_r14 X h1 h2) wle_R (by decide) len_R h1 h2
theorem gs_r12 (X : LX k dT a0 b 156 xs) {v : VL} (h1 : vO v 0 = b) (h2 : ∀ z, z < 156 → vI v z = xs z) : GS k (cxS htN 156) 350 350 dT wH0 v rS_12 := law_seg (ct_no (h := htN) rfl) X (Nat.le_refl _) sg_r12 (fun t ht => by
    have e := stE_ok ht
    subst e
    exact gs_r13 X h1 h2) wle_R (by decide) len_R h1 h2
theorem gs_r11 (X : LX k dT a0 b 156 xs) {v : VL} (h1 : vO v 0 = b) (h2 : ∀ z, z < 156 → vI v z = xs z) : GS k (cxS htN 156) 350 350 dT wH0 v rS_11 := law_seg (ct_no (h := htN) rfl) X (Nat.le_refl _) sg_r11 (fun t ht => by
    have e := stE_ok ht
    subst e
    exact gs_r12 X h1 h2) wle_R (by decide) len_R h1 h2
theorem gs_r10 (X : LX k dT a0 b 156 xs) {v : VL} (h1 : vO v 0 = b) (h2 : ∀ z, z < 156 → vI v z = xs z) : GS k (cxS htN 156) 350 350 dT wH0 v rS_10 := law_seg (ct_no (h := htN) rfl) X (Nat.le_refl _) sg_r10 (fun t ht => by
    have e := stE_ok ht
    subst e
    exact gs_r11 X h1 h2) wle_R (by decide) len_R h1 h2
theorem gs_r9 (X : LX k dT a0 b 156 xs) {v : VL} (h1 : vO v 0 = b) (h2 : ∀ z, z < 156 → vI v z = xs z) : GS k (cxS htN 156) 350 350 dT wH0 v rS_9 := law_seg (ct_no (h := htN) rfl) X (Nat.le_refl _) sg_r9 (fun t ht => by
    have e := stE_ok ht
    subst e
    exact gs_r10 X h1 h2) wle_R (by decide) len_R h1 h2
theorem gs_r8 (X : LX k dT a0 b 156 xs) {v : VL} (h1 : vO v 0 = b) (h2 : ∀ z, z < 156 → vI v z = xs z) : GS k (cxS htN 156) 350 350 dT wH0 v rS_8 := law_seg (ct_no (h := htN) rfl) X (Nat.le_refl _) sg_r8 (fun t ht => by
    have e := stE_ok ht
    subst e
    exact gs_r9 X h1 h2) wle_R (by decide) len_R h1 h2
theorem gs_r7 (X : LX k dT a0 b 156 xs) {v : VL} (h1 : vO v 0 = b) (h2 : ∀ z, z < 156 → vI v z = xs z) : GS k (cxS htN 156) 350 350 dT wH0 v rS_7 := law_seg (ct_no (h := htN) rfl) X (Nat.le_refl _) sg_r7 (fun t ht => by
    have e := stE_ok ht
    subst e
    exact gs_r8 X h1 h2) wle_R (by decide) len_R h1 h2
theorem gs_r6 (X : LX k dT a0 b 156 xs) {v : VL} (h1 : vO v 0 = b) (h2 : ∀ z, z < 156 → vI v z = xs z) : GS k (cxS htN 156) 350 350 dT wH0 v rS_6 := law_seg (ct_no (h := htN) rfl) X (Nat.le_refl _) sg_r6 (fun t ht => by
    have e := stE_ok ht
    subst e
    exact gs_r7 X h1 h2) wle_R (by decide) len_R h1 h2
theorem gs_r5 (X : LX k dT a0 b 156 xs) {v : VL} (h1 : vO v 0 = b) (h2 : ∀ z, z < 156 → vI v z = xs z) : GS k (cxS htN 156) 350 350 dT wH0 v rS_5 := law_seg (ct_no (h := htN) rfl) X (Nat.le_refl _) sg_r5 (fun t ht => by
    have e := stE_ok ht
    subst e
    exact gs_r6 X h1 h2) wle_R (by decide) len_R h1 h2
theorem gs_r4 (X : LX k dT a0 b 156 xs) {v : VL} (h1 : vO v 0 = b) (h2 : ∀ z, z < 156 → vI v z = xs z) : GS k (cxS htN 156) 350 350 dT wH0 v rS_4 := law_seg (ct_no (h := htN) rfl) X (Nat.le_refl _) sg_r4 (fun t ht => by
    have e := stE_ok ht
    subst e
    exact gs_r5 X h1 h2) wle_R (by decide) len_R h1 h2
theorem gs_r3 (X : LX k dT a0 b 156 xs) {v : VL} (h1 : vO v 0 = b) (h2 : ∀ z, z < 156 → vI v z = xs z) : GS k (cxS htN 156) 350 350 dT wH0 v rS_3 := law_seg (ct_no (h := htN) rfl) X (Nat.le_refl _) sg_r3 (fun t ht => by
    have e := stE_ok ht
    subst e
    exact gs_r4 X h1 h2) wle_R (by decide) len_R h1 h2
theorem gs_r2 (X : LX k dT a0 b 156 xs) {v : VL} (h1 : vO v 0 = b) (h2 : ∀ z, z < 156 → vI v z = xs z) : GS k (cxS htN 156) 350 350 dT wH0 v rS_2 := law_seg (ct_no (h := htN) rfl) X (Nat.le_refl _) sg_r2 (fun t ht => by
    have e := stE_ok ht
    subst e
    exact gs_r3 X h1 h2) wle_R (by decide) len_R h1 h2
theorem gs_r1 (X : LX k dT a0 b 156 xs) {v : VL} (h1 : vO v 0 = b) (h2 : ∀ z, z < 156 → vI v z = xs z) : GS k (cxS htN 156) 350 350 dT wH0 v rS_1 := law_seg (ct_no (h := htN) rfl) X (Nat.le_refl _) sg_r1 (fun t ht => by
    have e := stE_ok ht
    subst e
    exact gs_r2 X h1 h2) wle_R (by decide) len_R h1 h2
theorem gs_r0 (X : LX k dT a0 b 156 xs) {v : VL} (h1 : vO v 0 = b) (h2 : ∀ z, z < 156 → vI v z = xs z) : GS k (cxS htN 156) 350 350 dT wH0 v rS_0 := law_seg (ct_no (h := htN) rfl) X (Nat.le_refl _) sg_r0 (fun t ht => by
    have e := stE_ok ht
    subst e
    exact gs_r1 X h1 h2) wle_R (by decide) len_R h1 h2
theorem rS_0_eq : rS_0 = sH0 := rfl
theorem head_R (X : LX k dT a0 b 156 xs) : HeadOK k dT b 156 xs := head_of (h0 := htN) X (fun v hv h1 h2 => by
  have g := gs_r0 X h1 h2
  rw [rS_0_eq] at g
  exact g)
end RCH
