/-! A method's entry -/
section EY
variable {v : VL} {w : AW}
def argF (as : List AV) : List (Option AV) := as.flatMap (fun a => if Nat.beq (aCat a) 2 then [some a, none] else [some a])
theorem argF_c (a : AV) (r : List AV) : argF (a :: r) = (if Nat.beq (aCat a) 2 then [some a, none] else [some a]) ++ argF r := rfl
theorem argsL_e (n : Nat) (as : List AV) : argsL n as = argF as ++ List.replicate (n - (argF as).length) none := rfl
theorem argF_len : ∀ (as : List AV), (lg_sl (as.map (cv v))).length = (argF as).length
  | [] => rfl
  | a :: r => by
    have ih := argF_len r
    rw [argF_c]
    show ((if (cv v a).category = 2 then [Slot.val (cv v a), Slot.second] else [Slot.val (cv v a)]) ++ lg_sl (r.map (cv v))).length = _
    rw [List.length_append, List.length_append, ih, cv_cat]
    by_cases h : aCat a = 2
    · rw [if_pos h, h]; rfl
    · have : Nat.beq (aCat a) 2 = false := nb_ne h
      rw [if_neg h, this]; rfl
theorem argsL_len {n : Nat} {as : List AV} (h : (argF as).length ≤ n) : (argsL n as).length = n := by
  rw [argsL_e, List.length_append, List.length_replicate]
  omega
theorem argsL_0 (as : List AV) : (argsL 0 as).length = (argF as).length := by
  rw [argsL_e, List.length_append, List.length_replicate]
  omega
theorem argF_sc : ∀ {as : List AV}, scL w as → scO w (argF as)
  | [], _, a, ha => absurd ha List.not_mem_nil
  | b :: r, h, a, ha => by
    rw [argF_c] at ha
    rcases List.mem_append.mp ha with q | q
    · have : a = b := by
        split at q
        · rcases List.mem_cons.mp q with e | e
          · exact Option.some.inj e
          · have := List.mem_singleton.mp e
            cases this
        · exact Option.some.inj (List.mem_singleton.mp q)
      rw [this]
      exact sc_hd h
    · exact argF_sc (sc_tl h) a q
theorem argsL_sc {n : Nat} {as : List AV} (h : scL w as) : scO w (argsL n as) := by
  intro a ha
  rw [argsL_e] at ha
  rcases List.mem_append.mp ha with q | q
  · exact argF_sc h a q
  · have := (List.mem_replicate.mp q).2
    cases this
theorem argF_lv : ∀ (as : List AV) (m j : Nat) (a : AV), (argF as)[j]? = some (some a) → (m + j, cv v a) ∈ lv_args m (as.map (cv v))
  | [], m, j, a, h => by cases h
  | b :: r, m, j, a, h => by
    rw [argF_c] at h
    show (m + j, cv v a) ∈ (m, cv v b) :: lv_args (if (cv v b).category = 2 then m + 2 else m + 1) (r.map (cv v))
    rw [cv_cat]
    by_cases hc : aCat b = 2
    · rw [if_pos hc]
      rw [hc] at h
      replace h : (some b :: none :: argF r)[j]? = some (some a) := h
      match j, h with
      | 0, h => cases h; exact List.mem_cons_self
      | 1, h => cases h
      | j + 2, h =>
        have := argF_lv r (m + 2) j a h
        rw [show m + (j + 2) = m + 2 + j by omega]
        exact List.mem_cons_of_mem _ this
    · have h1 : aCat b = 1 := by
        rcases b with z | k | n | k | q | k
        · rfl
        · rfl
        · exact absurd rfl hc
        · exact absurd rfl hc
        · rfl
        · rfl
      rw [if_neg hc]
      rw [h1] at h
      replace h : (some b :: argF r)[j]? = some (some a) := h
      match j, h with
      | 0, h => cases h; exact List.mem_cons_self
      | j + 1, h =>
        have := argF_lv r (m + 1) j a h
        rw [show m + (j + 1) = m + 1 + j by omega]
        exact List.mem_cons_of_mem _ this
theorem argsL_lv {n : Nat} {as : List AV} : ∀ q ∈ cL v (argsL n as), q ∈ lv_args 0 (as.map (cv v)) := by
  rintro ⟨j, y⟩ hq
  obtain ⟨a, ha, rfl⟩ := cL_mem.mp hq
  rw [argsL_e] at ha
  by_cases hj : j < (argF as).length
  · rw [List.getElem?_append_left hj] at ha
    have := argF_lv (v := v) as 0 j a ha
    rw [Nat.zero_add] at this
    exact this
  · rw [List.getElem?_append_right (by omega), List.getElem?_replicate] at ha
    split at ha <;> cases ha
end EY
