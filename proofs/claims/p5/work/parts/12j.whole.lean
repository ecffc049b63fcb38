/-! The program, as a whole -/
theorem tbl_enT (es : List ((Nat × Nat × Nat × Nat) × Nat)) : tableOf (es.map Prod.fst) = es.map enT := by
  unfold tableOf
  rw [List.map_map]
  rfl
theorem exA_eq {mn : Nat} (h : Nat.ble 314 mn = true ∨ hxA mn = []) (pc e : Nat) : exA mn pc e = exG (hxA mn) pc e := by
  unfold exA
  by_cases hb : Nat.blt mn 314 = true
  · rw [if_pos hb]
    rcases h with h | h
    · have h1 := Nat.le_of_ble_eq_true h
      have h2 := Nat.blt_eq.mp hb
      omega
    · rw [h]
      rfl
  · rw [if_neg hb]
theorem rows_ok {s0 : State} {a0 : Array Value} (hNc : ncX s0) {mn pc : Nat} {r : ARow} (h : cdA mn pc = some r) : rowQ cx0 yA byA rtA hhA mn pc r ∧ plainName (yA mn).cls = true ∧ (mRt (xM cx0 mn) = 0 → rtA mn = none) ∧ (mRt (xM cx0 mn) = 1 → rtA mn = some .int) ∧ (mRt (xM cx0 mn) = 2 → rtA mn = some .boolean) ∧ (mRt (xM cx0 mn) = 3 → rtA mn = some .long) ∧
    (hhA mn = [] → ∀ pc e, xEx cx0 mn pc e = none) ∧ (hhA mn ≠ [] → ∀ k : kx_T, kx_ok k → z0_ok (kL k) (kS0 k) a0 (kD k) (kTy k) → kS0 k = s0 → kOwn k = (yA mn).cls → (kC k).exceptionTable.toList = tableOf (hhA mn) → ∀ pc, exX k cx0 mn pc) := by
  unfold cdA at h
  cases h1 : t3 cdAll mn with
  | none => rw [h1] at h; cases h
  | some l =>
    rw [h1] at h
    replace h : (match t3 l pc with | some r => r | none => none) = some r := h
    cases h2 : t3 l pc with
    | none => rw [h2] at h; cases h
    | some o =>
      rw [h2] at h
      replace h : o = some r := h
      subst h
      have hb := Q3_ok rw_all h1
      cases l with
      | nil => cases h2
      | cons a t =>
        simp only [rowsB, Bool.and_eq_true, Bool.or_eq_true, decide_eq_true_eq] at hb
        obtain ⟨⟨⟨⟨⟨⟨b1, b2⟩, b3⟩, b4⟩, b5⟩, b6⟩, b7⟩ := hb
        have hlk : (lkO (onA mn)).all (fun e => chkW e.2.2 (lkW (yA mn).cls e.1 e.2.1)) = true := by
          have := lkc_all (onA mn)
          unfold lkC at this
          rw [← b1] at this
          exact this
        have hon : onA mn ≤ 12 → (yA mn).cls = (nCl (onA mn)).1 := fun q => by
          rcases b5 with e | e
          · have := Nat.le_of_ble_eq_true e; omega
          · rw [e]; exact b1
        obtain ⟨t0, t1, t2, t3'⟩ := rtB_ok b4
        refine ⟨chkM_ok b2 hlk cls_all mk_ok cmn_ok th_ok ns_ok hon (fun q => of_decide_eq_true q) h2, b3, t0, t1, t2, t3', fun q pc e => ?_, fun _ k C Z e0 e1 e2 pc => ?_⟩
        · show exA mn pc e = none
          have hx : hxA mn = [] := List.map_eq_nil_iff.mp q
          rw [exA_eq b7, hx]
          rfl
        · exact exT_ok (a0 := a0) xc_ok C (by rw [e0]; exact hNc) Z (by rw [e1]; exact hlk) b6 (exA_eq b7) (e2.trans (tbl_enT _)) pc
def scVB : AV → Bool
  | .inr (.inl _) => false
  | .inr (.inr (.inr (.inl _))) => false
  | .inr (.inr (.inr (.inr (.inl (some i))))) => Nat.blt i 517
  | .inr (.inr (.inr (.inr (.inr _)))) => false
  | _ => true
def scCB : AC → Bool
  | .inl (_, _, .inl l) => l.all scVB
  | .inl (_, _, .inr e) => Nat.blt e.2.2 485
  | .inr (_, fs) => fs.all scVB
theorem scVB_ok {a : AV} (h : scVB a = true) : scV wB0 a := by
  rcases a with z | k | n | k | r | k
  · trivial
  · cases h
  · trivial
  · cases h
  · cases r with
    | none => trivial
    | some i => exact Nat.blt_eq.mp h
  · cases h
theorem scCB_ok {c : AC} (h : scCB c = true) : scC wB0 c := by
  rcases c with ⟨t, n, l | e⟩ | ⟨ci, fs⟩
  · exact fun a ha => scVB_ok (List.all_eq_true.mp h a ha)
  · exact Nat.blt_eq.mp h
  · exact fun a ha => scVB_ok (List.all_eq_true.mp h a ha)
theorem bs0_sc : (bs0.all (fun a => a.all (fun b => b.all scCB))) = true := by decide +kernel
theorem bsB_sc (i : Nat) : scC wB0 (bsB i) := by
  unfold bsB
  cases h : t3 bs0 i with
  | none => exact fun a ha => absurd ha List.not_mem_nil
  | some c =>
    show scC wB0 c
    unfold t3 at h
    cases h1 : bs0[i / 256]? with
    | none => rw [h1] at h; cases h
    | some a =>
      rw [h1] at h
      simp only [] at h
      cases h2 : a[i / 16 % 16]? with
      | none => rw [h2] at h; cases h
      | some b =>
        rw [h2] at h
        have m1 := List.all_eq_true.mp bs0_sc a (List.mem_of_getElem? h1)
        have m2 := List.all_eq_true.mp m1 b (List.mem_of_getElem? h2)
        exact scCB_ok (List.all_eq_true.mp m2 c (List.mem_of_getElem? h))
theorem px_ok {l : Launch} {s0 : State} {a0 : Array Value} {D : va_G} {tys : List (ClassId × FieldType)} {dT : Nat → ClassId} (Z : z0_ok l s0 a0 D tys) (hT : ∀ t, tys[min t 5]? = some (dT t, tyF t)) (hNc : ncX s0) : PX cx0 dT wB0 yA byA rtA hhA l s0 a0 D tys :=
  ⟨Z, hT, bsB_sc, ⟨chkL_ok (p := (3, 30)) (by decide +kernel), chkL_ok (p := (8, 20)) (by decide +kernel), chkL_ok (p := (8, 22)) (by decide +kernel)⟩, fun _ _ _ h => rows_ok hNc h⟩
theorem cfx_ok : cfX cfA cx0 := fun _ _ _ h => cf_ok h
theorem ct_none {l : Launch} {s0 : State} {D : va_G} {dT : Nat → ClassId} {vP : VL} : CX cx0 dT wB0 vP yA byA rtA hhA l s0 D := fun _ _ _ _ _ h _ _ _ _ _ => by cases h
