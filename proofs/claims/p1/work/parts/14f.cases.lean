/-! Case did -/
theorem cs_36_0 : okEnds (oRun cfA (cxS ht0 6) (oMeth cfA (cxM ht0) 60) 350 350 100000 (narS (swS 36) 1 (-2147483648) (-1))) = true := by decide +kernel
theorem cs_36_1 : okEnds (oRun cfA (cxS ht0 6) (oMeth cfA (cxM ht0) 60) 350 350 100000 (narS (swS 36) 1 0 0)) = true := by decide +kernel
theorem cs_36_2 : okEnds (oRun cfA (cxS ht0 6) (oMeth cfA (cxM ht0) 60) 350 350 100000 (narS (swS 36) 1 1 1)) = true := by decide +kernel
theorem cs_36_3 : okEnds (oRun cfA (cxS ht0 6) (oMeth cfA (cxM ht0) 60) 350 350 100000 (narS (swS 36) 1 2 2)) = true := by decide +kernel
theorem cs_36_4 : okEnds (oRun cfA (cxS ht0 6) (oMeth cfA (cxM ht0) 60) 350 350 100000 (narS (swS 36) 1 3 3)) = true := by decide +kernel
theorem cs_36_5 : okEnds (oRun cfA (cxS ht0 6) (oMeth cfA (cxM ht0) 60) 350 350 100000 (narS (swS 36) 1 4 4)) = true := by decide +kernel
theorem cs_36_6 : okEnds (oRun cfA (cxS ht0 6) (oMeth cfA (cxM ht0) 60) 350 350 100000 (narS (swS 36) 1 5 5)) = true := by decide +kernel
theorem cs_36_7 : okEnds (oRun cfA (cxS ht0 6) (oMeth cfA (cxM ht0) 60) 350 350 100000 (narS (swS 36) 1 6 6)) = true := by decide +kernel
theorem cs_36_8 : okEnds (oRun cfA (cxS ht0 6) (oMeth cfA (cxM ht0) 60) 350 350 100000 (narS (swS 36) 1 7 7)) = true := by decide +kernel
theorem cs_36_9 : okEnds (oRun cfA (cxS ht0 6) (oMeth cfA (cxM ht0) 60) 350 350 100000 (narS (swS 36) 1 8 2147483647)) = true := by decide +kernel
