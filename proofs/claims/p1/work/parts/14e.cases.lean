/-! Case edge -/
theorem cs_17_0 : okEnds (oRun cfA (cxS ht0 6) (oMeth cfA (cxM ht0) 60) 350 350 100000 (narS (swS 17) 1 (-2147483648) (-1))) = true := by decide +kernel
theorem cs_17_1 : okEnds (oRun cfA (cxS ht0 6) (oMeth cfA (cxM ht0) 60) 350 350 100000 (narS (swS 17) 1 0 0)) = true := by decide +kernel
theorem cs_17_2 : okEnds (oRun cfA (cxS ht0 6) (oMeth cfA (cxM ht0) 60) 350 350 100000 (narS (swS 17) 1 1 1)) = true := by decide +kernel
theorem cs_17_3 : okEnds (oRun cfA (cxS ht0 6) (oMeth cfA (cxM ht0) 60) 350 350 100000 (narS (swS 17) 1 2 2)) = true := by decide +kernel
theorem cs_17_4 : okEnds (oRun cfA (cxS ht0 6) (oMeth cfA (cxM ht0) 60) 350 350 100000 (narS (swS 17) 1 3 3)) = true := by decide +kernel
theorem cs_17_5 : okEnds (oRun cfA (cxS ht0 6) (oMeth cfA (cxM ht0) 60) 350 350 100000 (narS (swS 17) 1 4 4)) = true := by decide +kernel
theorem cs_17_6 : okEnds (oRun cfA (cxS ht0 6) (oMeth cfA (cxM ht0) 60) 350 350 100000 (narS (swS 17) 1 5 5)) = true := by decide +kernel
theorem cs_17_7 : okEnds (oRun cfA (cxS ht0 6) (oMeth cfA (cxM ht0) 60) 350 350 100000 (narS (swS 17) 1 6 6)) = true := by decide +kernel
theorem cs_17_8 : okEnds (oRun cfA (cxS ht0 6) (oMeth cfA (cxM ht0) 60) 350 350 100000 (narS (swS 17) 1 7 7)) = true := by decide +kernel
theorem cs_17_9 : okEnds (oRun cfA (cxS ht0 6) (oMeth cfA (cxM ht0) 60) 350 350 100000 (narS (swS 17) 1 8 2147483647)) = true := by decide +kernel
