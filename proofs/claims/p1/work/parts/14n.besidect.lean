/-! The contract of the model's beside -/
/-- where a step leads, by intervals of cells: from, to, how far (0: nowhere) -/
def bsL : Nat → List (Int × Int × Int)
  | 0 => (List.range 16).flatMap (fun (r : Nat) => [(8 * (r : Int), 8 * (r : Int) + 6, 1), (8 * (r : Int) + 7, 8 * (r : Int) + 7, 0)])
  | 1 => (List.range 16).flatMap (fun (r : Nat) => [(8 * (r : Int), 8 * (r : Int), 0), (8 * (r : Int) + 1, 8 * (r : Int) + 7, -1)])
  | 2 => [(0, 55, 8), (56, 63, 0), (64, 119, 8), (120, 127, 0)]
  | 3 => [(0, 7, 0), (8, 63, -8), (64, 71, 0), (72, 127, -8)]
  | 4 => [(0, 63, 64), (64, 127, 0)]
  | _ => [(0, 63, 0), (64, 127, -64)]
def bsOk (c s : Nat) : Bool := (bsL s).any (fun e => decide (e.1 ≤ (c : Int)) && decide ((c : Int) ≤ e.2.1) && (if e.2.2 = 0 then decide (rB c s = Int32.ofInt (-1)) else decide ((rB c s).toInt = (c : Int) + e.2.2)))
theorem bs_all : (List.range 128).all (fun c => (List.range 6).all (fun s => bsOk c s)) = true := by decide +kernel
theorem bs_some {c s : Nat} (hc : c < 128) (hs : s < 6) : ∃ e ∈ bsL s, e.1 ≤ (c : Int) ∧ (c : Int) ≤ e.2.1 ∧ ((e.2.2 = 0 ∧ rB c s = Int32.ofInt (-1)) ∨ (e.2.2 ≠ 0 ∧ (rB c s).toInt = (c : Int) + e.2.2)) := by
  have h := List.all_eq_true.mp (List.all_eq_true.mp bs_all c (List.mem_range.mpr hc)) s (List.mem_range.mpr hs)
  obtain ⟨e, he, h⟩ := List.any_eq_true.mp h
  simp only [Bool.and_eq_true, decide_eq_true_eq] at h
  refine ⟨e, he, h.1.1, h.1.2, ?_⟩
  by_cases q : e.2.2 = 0
  · rw [if_pos q] at h; exact Or.inl ⟨q, of_decide_eq_true h.2⟩
  · rw [if_neg q] at h; exact Or.inr ⟨q, of_decide_eq_true h.2⟩
/-- one interval's end -/
def bsE1 (w : AW) (k : Nat) (b : Int × Int × Nat × Int) (e : Int × Int × Int) : Option AR :=
  let lo := max b.1 e.1
  let hi := min b.2.1 e.2.1
  if lo ≤ hi then
    if e.2.2 = 0 then some (.inl (some (aI (-1))), wEnv w (eSet (wE w) k lo hi))
    else
      let q := wNewI (wEnv w (eSet (wE w) k lo hi)) (lo + e.2.2) (hi + e.2.2) (some (b.2.2.1, b.2.2.2 + e.2.2))
      some (.inl (some q.2), q.1)
  else none
def ctB (as : List AV) (w : AW) : Option (List AR) := match as with
  | [.inl z, .inl t] => if 0 ≤ z ∧ z ≤ 127 ∧ 0 ≤ t ∧ t ≤ 5 then some [(.inl (some (aI (rB z.toNat t.toNat).toInt)), w)] else none
  | [.inr (.inl k), .inl t] => match (wE w)[k]? with
    | some b => if 0 ≤ b.1 ∧ b.2.1 ≤ 127 ∧ 0 ≤ t ∧ t ≤ 5 then some ((bsL t.toNat).filterMap (bsE1 w k b)) else none
    | none => none
  | _ => none
theorem on_of {z : Int} (h0 : 0 ≤ z) : Int32.ofInt z = Int32.ofNat z.toNat := by
  conv => lhs; rw [← Int.toNat_of_nonneg h0]
  rfl
theorem ctB_ends {x : ACx} {dT : Nat → ClassId} {as : List AV} {w : AW} {rs : List AR} {v : VL} (h : ctB as w = some rs) (hw : okW (xB x) v w) : ∃ c s, c < 128 ∧ s < 6 ∧ as.map (cv v) = [.int (Int32.ofNat c), .int (Int32.ofNat s)] ∧ Kd x dT w v rs (.inl (some (.int (rB c s)))) (cW v dT (xB x) (wH w)) := by
  unfold ctB at h
  split at h
  · rename_i z t
    split at h
    · rename_i q
      cases h
      refine ⟨z.toNat, t.toNat, by omega, by omega, ?_, _, List.mem_cons_self, v, agr_rf _ _, wle_rf _, hw, fun a ha => ?_, ?_, rfl⟩
      · show [Value.int (Int32.ofInt z), Value.int (Int32.ofInt t)] = _
        rw [on_of q.1, on_of q.2.2.1]
      · cases ha; trivial
      · show _ = Sum.inl (some (Value.int (Int32.ofInt _)))
        rw [Int32.ofInt_toInt]
    · cases h
  · rename_i k t
    split at h
    · rename_i b hb
      split at h
      · rename_i q
        cases h
        have hE := hw.1 k b hb
        have hr : ((vI v k).toInt.toNat : Int) = (vI v k).toInt := Int.toNat_of_nonneg (by omega)
        have ev : vI v k = Int32.ofNat (vI v k).toInt.toNat := by
          rw [← on_of (by omega), Int32.ofInt_toInt]
        obtain ⟨e, he, h1, h2, h3⟩ := bs_some (c := (vI v k).toInt.toNat) (s := t.toNat) (by omega) (by omega)
        rw [hr] at h1 h2 h3
        obtain ⟨n1, n2⟩ := eSet_ok (lo := max b.1 e.1) (hi := min b.2.1 e.2.1) hw.1 hb (by omega) (by omega)
        obtain ⟨n3, n4⟩ := okW_nar hw n1 n2
        refine ⟨(vI v k).toInt.toNat, t.toNat, by omega, by omega, ?_, ?_⟩
        · show [Value.int (vI v k), Value.int (Int32.ofInt t)] = _
          rw [on_of q.2.2.1, ← ev]
        · rcases h3 with ⟨h3, h4⟩ | ⟨h3, h4⟩
          · refine ⟨(.inl (some (aI (-1))), wEnv w (eSet (wE w) k (max b.1 e.1) (min b.2.1 e.2.1))), List.mem_filterMap.mpr ⟨e, he, ?_⟩, v, agr_rf _ _, n4, n3, fun a ha => ?_, ?_, rfl⟩
            · unfold bsE1
              rw [if_pos (by omega), if_pos h3]
            · cases ha; trivial
            · rw [h4]; rfl
          · refine ⟨(.inl (some (aS (eSet (wE w) k (max b.1 e.1) (min b.2.1 e.2.1)).length)), (wNewI (wEnv w (eSet (wE w) k (max b.1 e.1) (min b.2.1 e.2.1))) (max b.1 e.1 + e.2.2) (min b.2.1 e.2.1 + e.2.2) (some (b.2.2.1, b.2.2.2 + e.2.2))).1), List.mem_filterMap.mpr ⟨e, he, ?_⟩, vIu v (wE (wEnv w (eSet (wE w) k (max b.1 e.1) (min b.2.1 e.2.1)))).length (rB (vI v k).toInt.toNat t.toNat), agr_mono (agr_vIu (w := wEnv w (eSet (wE w) k (max b.1 e.1) (min b.2.1 e.2.1))) v _) n4, wle_tr n4 (wle_newI (w := wEnv w (eSet (wE w) k (max b.1 e.1) (min b.2.1 e.2.1))) (max b.1 e.1 + e.2.2) (min b.2.1 e.2.1 + e.2.2) (some (b.2.2.1, b.2.2.2 + e.2.2))), ?_, fun a ha => ?_, ?_, ?_⟩
            · unfold bsE1
              rw [if_pos (by omega), if_neg h3]
              rfl
            · have hbk := hw.2.2.2 k b hb
              have hk : k < (wE w).length := (List.getElem?_eq_some_iff.mp hb).1
              refine newI_ok (lo := max b.1 e.1 + e.2.2) (hi := min b.2.1 e.2.1 + e.2.2) (x := rB (vI v k).toInt.toNat t.toNat) n3 (some (b.2.2.1, b.2.2.2 + e.2.2)) (by omega) (by omega) (fun b' o' e' => ?_)
              cases e'
              refine ⟨?_, by omega⟩
              show b.2.2.1 < (eSet (wE w) k _ _).length
              rw [n1.1]; omega
            · cases ha
              show _ < ((eSet (wE w) k _ _) ++ [_]).length
              simp
            · exact congrArg (fun z => Sum.inl (some (Value.int z))) (if_pos rfl).symm
            · exact cW_agr (agr_mono (agr_vIu (w := wEnv w (eSet (wE w) k (max b.1 e.1) (min b.2.1 e.2.1))) v _) n4) hw.2.2.1
      · cases h
    · cases h
  · cases h
section BC
variable {k : kx_T} {dT : Nat → ClassId} {a0 : Array Value} {b L : Nat} {xs : Nat → Int32}
theorem bs_mb (X : LX k dT a0 b L xs) {c s : Nat} (hc : c < 128) (hs : s < 6) {K : mb_O → va_W → Prop} {ws : va_W} (h : K (.inl (some (.int (rB c s)))) ws) : MB (kL k) (kS0 k) (kD k) yX12_beside (.code yX12_beside cX12_beside 5 (some .int)) (mRm (miB 190)) [.int (Int32.ofNat c), .int (Int32.ofNat s)] ws K :=
  mb_of X.1.2.1 (by decide) (Nat.le_of_ble_eq_true rfl) (fun k' C e1 e2 e3 e4 e5 e6 e7 e8 e9 e10 e11 qe => bs_body C e7 e8 e9 qe hc hs h)
theorem ctB_ok (X : LX k dT a0 b L xs) (h : HT) {as : List AV} {w : AW} {rs : List AR} {v : VL} (hc : ctB as w = some rs) (hw : okW bsB v w) : MB (kL k) (kS0 k) (kD k) (yA 190) (cdX (cxM h) yA byA rtA hhA 190) (mRm (xM (cxM h) 190)) (as.map (cv v)) (cW v dT bsB (wH w)) (Kd (cxM h) dT w v rs) := by
  obtain ⟨c, s, h1, h2, h3, h4⟩ := ctB_ends (x := cxM h) (dT := dT) hc hw
  rw [h3]
  exact bs_mb X h1 h2 h4
end BC
