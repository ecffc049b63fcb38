/-! Cases, by runs in the kernel -/
theorem cs_0 : okEnds (oRun cfA (cxS ht0 6) (oMeth cfA (cxM ht0) 60) 350 350 100000 (swS 0)) = true := by decide +kernel
theorem cs_1 : okEnds (oRun cfA (cxS ht0 6) (oMeth cfA (cxM ht0) 60) 350 350 100000 (swS 1)) = true := by decide +kernel
theorem cs_2 : okEnds (oRun cfA (cxS ht0 6) (oMeth cfA (cxM ht0) 60) 350 350 100000 (swS 2)) = true := by decide +kernel
theorem cs_3 : okEnds (oRun cfA (cxS ht0 6) (oMeth cfA (cxM ht0) 60) 350 350 100000 (swS 3)) = true := by decide +kernel
theorem cs_4 : okEnds (oRun cfA (cxS ht0 6) (oMeth cfA (cxM ht0) 60) 350 350 100000 (swS 4)) = true := by decide +kernel
theorem cs_5 : okEnds (oRun cfA (cxS ht0 6) (oMeth cfA (cxM ht0) 60) 350 350 100000 (swS 5)) = true := by decide +kernel
theorem cs_6 : okEnds (oRun cfA (cxS ht0 6) (oMeth cfA (cxM ht0) 60) 350 350 100000 (swS 6)) = true := by decide +kernel
theorem cs_7 : okEnds (oRun cfA (cxS ht0 6) (oMeth cfA (cxM ht0) 60) 350 350 100000 (swS 7)) = true := by decide +kernel
theorem cs_8 : okEnds (oRun cfA (cxS ht0 6) (oMeth cfA (cxM ht0) 60) 350 350 100000 (swS 8)) = true := by decide +kernel
theorem cs_10 : okEnds (oRun cfA (cxS ht0 6) (oMeth cfA (cxM ht0) 60) 350 350 100000 (swS 10)) = true := by decide +kernel
theorem cs_15 : okEnds (oRun cfA (cxS ht0 6) (oMeth cfA (cxM ht0) 60) 350 350 100000 (swS 15)) = true := by decide +kernel
theorem cs_16 : okEnds (oRun cfA (cxS ht0 6) (oMeth cfA (cxM ht0) 60) 350 350 100000 (swS 16)) = true := by decide +kernel
theorem cs_19 : okEnds (oRun cfA (cxS ht0 6) (oMeth cfA (cxM ht0) 60) 350 350 100000 (swS 19)) = true := by decide +kernel
