/-! Case worth -/
theorem cs_39_5 : okEnds (oRun cfA (cxS h39 6) (oMeth cfA (cxM h39) 60) 350 350 100000 (narS (swS 39) 2 4 4)) = true := by decide +kernel
theorem cs_39_6 : okEnds (oRun cfA (cxS h39 6) (oMeth cfA (cxM h39) 60) 350 350 100000 (narS (swS 39) 2 5 5)) = true := by decide +kernel
theorem cs_39_7 : okEnds (oRun cfA (cxS h39 6) (oMeth cfA (cxM h39) 60) 350 350 100000 (narS (swS 39) 2 6 6)) = true := by decide +kernel
theorem cs_39_8 : okEnds (oRun cfA (cxS h39 6) (oMeth cfA (cxM h39) 60) 350 350 100000 (narS (swS 39) 2 7 7)) = true := by decide +kernel
theorem cs_39_9 : okEnds (oRun cfA (cxS ht0 6) (oMeth cfA (cxM ht0) 60) 350 350 100000 (narS (swS 39) 2 8 2147483647)) = true := by decide +kernel
