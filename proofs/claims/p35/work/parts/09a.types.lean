/-! Types of the program's tables -/
/-- a row of code: the instruction, its length, two numbers and a whole number that belong to it -/
abbrev ARow : Type := Instr × Nat × Nat × Nat × Int
/-- a method: class, locals, what it answers (0 nothing, 1 int, 2 boolean, 3 long), arguments, room: frames, locals, cells, slots -/
abbrev AM : Type := Nat × Nat × Nat × Nat × Nat × Nat × Nat × Nat
abbrev mCl (m : AM) : Nat := m.1
abbrev mNL (m : AM) : Nat := m.2.1
abbrev mRt (m : AM) : Nat := m.2.2.1
abbrev mAr (m : AM) : Nat := m.2.2.2.1
abbrev mFr (m : AM) : Nat := m.2.2.2.2.1
abbrev mLo (m : AM) : Nat := m.2.2.2.2.2.1
abbrev mCe (m : AM) : Nat := m.2.2.2.2.2.2.1
abbrev mSl (m : AM) : Nat := m.2.2.2.2.2.2.2
/-- a table of three steps -/
def t3 {α : Type} (l : List (List (List α))) (i : Nat) : Option α := match l[i / 256]? with
  | some a => match a[i / 16 % 16]? with
    | some b => b[i % 16]?
    | none => none
  | none => none
