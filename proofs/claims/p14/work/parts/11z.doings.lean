/-! The rows' doings: those of the rows -/
def cfA (j pc : Nat) : Option AF := match cdA j pc with
  | some r => some (rowF r)
  | none => none
theorem cf_ok {mn pc : Nat} {f : AF} (h : cfA mn pc = some f) : ∃ r, cdA mn pc = some r ∧ f = rowF r := by
  unfold cfA at h
  cases h1 : cdA mn pc with
  | none => rw [h1] at h; cases h
  | some r =>
    rw [h1] at h
    cases h
    exact ⟨r, rfl, rfl⟩
