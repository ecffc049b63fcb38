/-! Case worth -/
/-- worth: the ends of some calls taken together (the class's worth; the model's costOf, findPeaks, setOf) -/
def sm39 (c m : Nat) : Option ASm :=
  if Nat.beq c 348 && Nat.beq m 174 then some [([(2, 0, [3, 0], (-1), 7), (2, 0, [3, 1], 0, 0), (2, 0, [3, 2], 0, 0), (2, 0, [5, 3], 0, 1), (3, 0, [4, 11, 4], (-2147483648), 2147483647), (3, 0, [4, 11, 5], (-2147483648), 2147483647), (3, 0, [4, 11, 6], (-2147483648), 2147483647), (5, 1, [], 0, 127)], 1, 0, 0), ([(5, 1, [], (-2147483648), (-1))], 3, 2, 0), ([(5, 1, [], 128, 2147483647)], 3, 2, 0)] else
  if Nat.beq c 291 && Nat.beq m 252 then some [([(2, 0, [37], 0, 1), (3, 0, [21, 4], (-2147483648), 2147483647), (3, 0, [21, 5], (-2147483648), 2147483647), (3, 0, [21, 6], (-2147483648), 2147483647)], 1, 0, 0)] else
  if Nat.beq c 252 && Nat.beq m 250 then some [([(2, 0, [37], 0, 1), (3, 0, [21, 4], (-2147483648), 2147483647), (3, 0, [21, 5], (-2147483648), 2147483647), (3, 0, [21, 6], (-2147483648), 2147483647)], 0, 0, 0)] else
  if Nat.beq c 232 && Nat.beq m 230 then some [([(2, 0, [37], 0, 1)], 0, 0, 0)] else none
def h39 : HT := (lhA, sm39, ct0)
theorem cs_39_0 : okEnds (oRun cfA (cxS ht0 6) (oMeth cfA (cxM ht0) 60) 350 350 100000 (narS (swS 39) 2 (-2147483648) (-1))) = true := by decide +kernel
theorem cs_39_1 : okEnds (oRun cfA (cxS ht0 6) (oMeth cfA (cxM ht0) 60) 350 350 100000 (narS (swS 39) 2 0 0)) = true := by decide +kernel
theorem cs_39_2 : okEnds (oRun cfA (cxS h39 6) (oMeth cfA (cxM h39) 60) 350 350 100000 (narS (swS 39) 2 1 1)) = true := by decide +kernel
theorem cs_39_3 : okEnds (oRun cfA (cxS h39 6) (oMeth cfA (cxM h39) 60) 350 350 100000 (narS (swS 39) 2 2 2)) = true := by decide +kernel
theorem cs_39_4 : okEnds (oRun cfA (cxS h39 6) (oMeth cfA (cxM h39) 60) 350 350 100000 (narS (swS 39) 2 3 3)) = true := by decide +kernel
