theorem tt_0 : okEnds (swR 0) = true := by decide +kernel
theorem tt_8 : okEnds (swR 8) = true := by decide +kernel
theorem tt_11 : okEnds (swR 11) = true := by decide +kernel
