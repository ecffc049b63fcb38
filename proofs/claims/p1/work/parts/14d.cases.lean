/-! Case peak -/
theorem cs_12_0 : okEnds (oRun cfA (cxS ht0 6) (oMeth cfA (cxM ht0) 60) 350 350 100000 (narS (swS 12) 1 (-2147483648) (-1))) = true := by decide +kernel
theorem cs_12_1 : okEnds (oRun cfA (cxS ht0 6) (oMeth cfA (cxM ht0) 60) 350 350 100000 (narS (swS 12) 1 0 0)) = true := by decide +kernel
theorem cs_12_2 : okEnds (oRun cfA (cxS ht0 6) (oMeth cfA (cxM ht0) 60) 350 350 100000 (narS (swS 12) 1 1 1)) = true := by decide +kernel
theorem cs_12_3 : okEnds (oRun cfA (cxS ht0 6) (oMeth cfA (cxM ht0) 60) 350 350 100000 (narS (swS 12) 1 2 2)) = true := by decide +kernel
theorem cs_12_4 : okEnds (oRun cfA (cxS ht0 6) (oMeth cfA (cxM ht0) 60) 350 350 100000 (narS (swS 12) 1 3 3)) = true := by decide +kernel
theorem cs_12_5 : okEnds (oRun cfA (cxS ht0 6) (oMeth cfA (cxM ht0) 60) 350 350 100000 (narS (swS 12) 1 4 4)) = true := by decide +kernel
theorem cs_12_6 : okEnds (oRun cfA (cxS ht0 6) (oMeth cfA (cxM ht0) 60) 350 350 100000 (narS (swS 12) 1 5 5)) = true := by decide +kernel
theorem cs_12_7 : okEnds (oRun cfA (cxS ht0 6) (oMeth cfA (cxM ht0) 60) 350 350 100000 (narS (swS 12) 1 6 6)) = true := by decide +kernel
theorem cs_12_8 : okEnds (oRun cfA (cxS ht0 6) (oMeth cfA (cxM ht0) 60) 350 350 100000 (narS (swS 12) 1 7 7)) = true := by decide +kernel
theorem cs_12_9 : okEnds (oRun cfA (cxS ht0 6) (oMeth cfA (cxM ht0) 60) 350 350 100000 (narS (swS 12) 1 8 2147483647)) = true := by decide +kernel
