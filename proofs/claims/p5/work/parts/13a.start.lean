/-! The law's start -/
/-- what the Statement gives of the start, part by part -/
def gvL : List Cond := flatC (Jvm.Cond.and given_1 narrow_1)
def stB (w : Cond) : Bool := match w with
  | .stringRef o i _ => decide (o ≠ RX11) || [110, 155, 174, 276, 311, 372, 411, 413, 415].any (fun j => Nat.beq j i)
  | _ => true
theorem st_all : lw_tbl.all stB = true := by decide +kernel
theorem gv_s110 : Cond.exactly (Term.string "SkyCuts" 110) "java/lang/String" ∈ gvL := by decide +kernel
theorem gv_s155 : Cond.exactly (Term.string "SkyCuts" 155) "java/lang/String" ∈ gvL := by decide +kernel
theorem gv_s174 : Cond.exactly (Term.string "SkyCuts" 174) "java/lang/String" ∈ gvL := by decide +kernel
theorem gv_s276 : Cond.exactly (Term.string "SkyCuts" 276) "java/lang/String" ∈ gvL := by decide +kernel
theorem gv_s311 : Cond.exactly (Term.string "SkyCuts" 311) "java/lang/String" ∈ gvL := by decide +kernel
theorem gv_s372 : Cond.exactly (Term.string "SkyCuts" 372) "java/lang/String" ∈ gvL := by decide +kernel
theorem gv_s411 : Cond.exactly (Term.string "SkyCuts" 411) "java/lang/String" ∈ gvL := by decide +kernel
theorem gv_s413 : Cond.exactly (Term.string "SkyCuts" 413) "java/lang/String" ∈ gvL := by decide +kernel
theorem gv_s415 : Cond.exactly (Term.string "SkyCuts" 415) "java/lang/String" ∈ gvL := by decide +kernel
theorem gv_n01 : Cond.not (Cond.castable (exN 0) (exN 1)) ∈ gvL := by decide +kernel
theorem gv_n02 : Cond.not (Cond.castable (exN 0) (exN 2)) ∈ gvL := by decide +kernel
theorem gv_n10 : Cond.not (Cond.castable (exN 1) (exN 0)) ∈ gvL := by decide +kernel
theorem gv_n12 : Cond.not (Cond.castable (exN 1) (exN 2)) ∈ gvL := by decide +kernel
theorem gv_n20 : Cond.not (Cond.castable (exN 2) (exN 0)) ∈ gvL := by decide +kernel
theorem gv_n21 : Cond.not (Cond.castable (exN 2) (exN 1)) ∈ gvL := by decide +kernel
theorem gv_u : Cond.isRef (.static Bundle.tN "UNASSIGNED_STACK" Bundle.steD) ∈ gvL := by decide +kernel
theorem gv_w : Cond.isRef (.static Bundle.tN "SUPPRESSED_SENTINEL" Bundle.listD) ∈ gvL := by decide +kernel
section ST0
variable {s : State} {a0 : Array Value}
theorem arr_of {cA : ClassId} {ty : FieldType} {k : Class} {comp : ClassId} (h1 : s.vm.classes[cA]? = some k) (h2 : k.kind = .array comp ty) : ArrOfT s cA ty := fun _ _ => ⟨(fun q h => by cases h), k, h1, comp, h2⟩
theorem gT_in {w : Cond} (h : w ∈ gT) : w ∈ lw_tbl := (List.mem_filter.mp h).1
theorem prim_of {ty : FieldType} (hts : ∀ w ∈ lw_tbl, w.before a0 s = true) (h : Cond.arrayClass ty ∈ gT) (hno : ∀ C, ty ≠ .object C) : ∃ cA, ArrOfT s cA ty ∧ va_RA s cA ty := by
  obtain ⟨cA, kA, comp, h1, h2, h3⟩ := Cond.arrayClass_spec (hts _ (gT_in h))
  refine ⟨cA, arr_of h2 h3, ?_⟩
  cases ty with
  | object C => exact absurd rfl (hno C)
  | _ => exact h1
theorem arra_of {ty : FieldType} (hts : ∀ w ∈ lw_tbl, w.before a0 s = true) (h : Cond.arrayOver (.array ty) ∈ lw_tbl) : ∃ cA, ArrOfT s cA (.array ty) ∧ va_RA s cA (.array ty) := by
  obtain ⟨comp, c, k, h1, h2, h3, h4, h5⟩ := arrayOver_specB (hts _ h)
  exact ⟨c, arr_of h3 h4, h5⟩
theorem arro_of {C : String} (hts : ∀ w ∈ lw_tbl, w.before a0 s = true) (h : Cond.arrayOver (.object C) ∈ lw_tbl) : ∃ cA, ArrOfT s cA (.object C) ∧ va_RA s cA (.object C) := by
  obtain ⟨comp, c, k, h1, h2, h3, h4, h5⟩ := Cond.arrayOver_spec (hts _ h)
  exact ⟨c, arr_of h3 h4, k, comp, h3, h4, h1, h5⟩
theorem ov1 : Cond.arrayOver (.object RX0) ∈ lw_tbl := chkL_ok (p := (3, 30)) (by decide +kernel)
theorem ov2 : Cond.arrayOver (.array .int) ∈ lw_tbl := chkL_ok (p := (8, 20)) (by decide +kernel)
theorem ov3 : Cond.arrayOver (.array (.array .int)) ∈ lw_tbl := chkL_ok (p := (8, 22)) (by decide +kernel)
theorem str_of (hts : ∀ w ∈ lw_tbl, w.before a0 s = true) (hgv : ∀ w ∈ gvL, w.before a0 s = true) (i : Nat) (t : String) (h : Cond.stringRef RX11 i t ∈ lw_tbl) : ∃ sa, vk_R RX11 i t sa s := by
  have hb := List.all_eq_true.mp st_all _ h
  have one : ∀ j : Nat, Cond.exactly (Term.string "SkyCuts" j) "java/lang/String" ∈ gvL → Cond.stringRef RX11 j t ∈ lw_tbl → ∃ sa, vk_R RX11 j t sa s := by
    intro j hj hm
    obtain ⟨a, c, cA, kA, q1, q2, q3, q4, q5, q6, -⟩ := Cond.exactly_spec (hgv _ hj)
    exact ⟨a, vk_R.of (hts _ hm) q1⟩
  simp only [stB, Bool.or_eq_true, decide_eq_true_eq, ne_eq, not_true_eq_false, false_or, List.any_cons, List.any_nil, Bool.or_false] at hb
  rcases hb with e | e | e | e | e | e | e | e | e
  · have e := Nat.eq_of_beq_eq_true e; subst e; exact one _ gv_s110 h
  · have e := Nat.eq_of_beq_eq_true e; subst e; exact one _ gv_s155 h
  · have e := Nat.eq_of_beq_eq_true e; subst e; exact one _ gv_s174 h
  · have e := Nat.eq_of_beq_eq_true e; subst e; exact one _ gv_s276 h
  · have e := Nat.eq_of_beq_eq_true e; subst e; exact one _ gv_s311 h
  · have e := Nat.eq_of_beq_eq_true e; subst e; exact one _ gv_s372 h
  · have e := Nat.eq_of_beq_eq_true e; subst e; exact one _ gv_s411 h
  · have e := Nat.eq_of_beq_eq_true e; subst e; exact one _ gv_s413 h
  · have e := Nat.eq_of_beq_eq_true e; subst e; exact one _ gv_s415 h
/-- all that the law's start gives -/
theorem start_ok {l : Launch} (hl : l.stackTraces = false) (hts : ∀ w ∈ lw_tbl, w.before a0 s = true) (hgv : ∀ w ∈ gvL, w.before a0 s = true) : ∃ (D : va_G) (tys : List (ClassId × FieldType)) (dT : Nat → ClassId), z0_ok l s a0 D tys ∧ (∀ t, tys[min t 5]? = some (dT t, tyF t)) ∧ ncX s := by
  have hk : ∀ ci : Nat, ∃ p : ClassId × (Nat → Nat), ci ≤ 12 → u_Kn s (nCl ci).1 (nCl ci).2.2.1 (nCl ci).2.1 p.1 p.2 := by
    intro ci
    by_cases h : ci ≤ 12
    · obtain ⟨⟨c0, c1, c2, c3⟩, -, c4, -⟩ := cls_all ci h
      obtain ⟨cC, iS, hq⟩ := u_known (ws := lw_tbl) hts (fun w hw => gT_in (c1 w hw)) (hts _ (gT_in c4))
      exact ⟨(cC, iS), fun _ => hq⟩
    · exact ⟨(0, fun _ => 0), fun q => absurd q h⟩
  obtain ⟨f, hf⟩ := Classical.axiomOfChoice hk
  obtain ⟨t0, a0', b0⟩ := prim_of hts cmn_ok.1 (fun C h => by cases h)
  obtain ⟨t1, a1, b1⟩ := prim_of hts cmn_ok.2.1 (fun C h => by cases h)
  obtain ⟨t2, a2, b2⟩ := prim_of hts cmn_ok.2.2.1 (fun C h => by cases h)
  obtain ⟨t3, a3, b3⟩ := arra_of hts ov2
  obtain ⟨t4, a4, b4⟩ := arra_of hts ov3
  obtain ⟨t5, a5, b5⟩ := arro_of hts ov1
  have hA : ∀ a : Nat, a < s.heap.size → ¬ mb_F s a := fun a h q => Nat.not_lt.mpr q h
  refine ⟨(fun c => (f c).1, fun c => (f c).2), [(t0, .int), (t1, .long), (t2, .boolean), (t3, .array .int), (t4, .array (.array .int)), (t5, .object RX0)], fun t => match t with | 0 => t0 | 1 => t1 | 2 => t2 | 3 => t3 | 4 => t4 | _ => t5, ⟨hl, hts, ⟨fun c q hq => ?_, fun j q hq => ?_⟩, ?_, ?_, str_of hts hgv⟩, fun t => ?_, ?_⟩
  · have hc : c ≤ 12 := by
      have := (List.getElem?_eq_some_iff.mp hq).1
      have e : vwCl.length = 13 := rfl
      omega
    have e := (cls_all c hc).1.1
    rw [e] at hq
    cases hq
    exact hf c hc
  · match j, hq with
    | 0, hq => cases hq; exact ⟨a0', b0⟩
    | 1, hq => cases hq; exact ⟨a1, b1⟩
    | 2, hq => cases hq; exact ⟨a2, b2⟩
    | 3, hq => cases hq; exact ⟨a3, b3⟩
    | 4, hq => cases hq; exact ⟨a4, b4⟩
    | 5, hq => cases hq; exact ⟨a5, b5⟩
    | n + 6, hq => cases hq
  · exact vx_Zqof (hts _ (chkL_ok (p := (4, 113)) (by decide +kernel))) (hts _ (chkL_ok (p := (1, 15)) (by decide +kernel))) (hgv _ gv_u) hA
  · exact vx_Zqof (hts _ (chkL_ok (p := (4, 115)) (by decide +kernel))) (hts _ (chkL_ok (p := (1, 15)) (by decide +kernel))) (hgv _ gv_w) hA
  · match t with
    | 0 => rfl
    | 1 => rfl
    | 2 => rfl
    | 3 => rfl
    | 4 => rfl
    | n + 5 =>
      have e : min (n + 5) 5 = 5 := Nat.min_eq_right (by omega)
      rw [e]
      rfl
  · intro a b ha hb hne
    match a, b, ha, hb, hne with
    | 0, 0, _, _, h => exact absurd rfl h
    | 0, 1, _, _, _ => exact va_Nc.of (hgv _ gv_n01)
    | 0, 2, _, _, _ => exact va_Nc.of (hgv _ gv_n02)
    | 1, 0, _, _, _ => exact va_Nc.of (hgv _ gv_n10)
    | 1, 1, _, _, h => exact absurd rfl h
    | 1, 2, _, _, _ => exact va_Nc.of (hgv _ gv_n12)
    | 2, 0, _, _, _ => exact va_Nc.of (hgv _ gv_n20)
    | 2, 1, _, _, _ => exact va_Nc.of (hgv _ gv_n21)
    | 2, 2, _, _, h => exact absurd rfl h
    | n + 3, _, h, _, _ => omega
    | 0, n + 3, _, h, _ => omega
    | 1, n + 3, _, h, _ => omega
    | 2, n + 3, _, h, _ => omega
end ST0
