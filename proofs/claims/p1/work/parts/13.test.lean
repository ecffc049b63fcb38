def cxT : ACx := (fun _ => .inr (99, []), cdA, miA, fun _ _ _ => none, fun _ _ => none, fun _ _ _ => none)
def wT0 : AW := ([], (1, [(0, .inr (11, dfl 11))]), 0, 0, 0)
set_option maxRecDepth 1000000 in
theorem t_ctor : (oMeth cxT 6 999 134 [aR (some 0)] wT0).isSome = true := by decide +kernel
