/-! The model: small methods -/
section M30
variable {l : Launch} {s0 : State} {D : va_G} {tys : List (ClassId × FieldType)} {a0 : Array Value} {A : Nat → Nat} {dT : Nat → ClassId} {s : PS}
theorem fm_i {L M : List Nat} {s t : PS} {k : Nat} (F : Fm L M s t) (h : k ∉ L) : iI t k = iI s k := congrArg Int32.toInt (F.1 k h)
theorem nar_ret {e : Int} (h : e = 0 ∨ e = 1) : narrow .boolean (.int (Int32.ofInt e)) = .int (Int32.ofInt e) := by rcases h with h | h <;> subst h <;> decide
end M30
