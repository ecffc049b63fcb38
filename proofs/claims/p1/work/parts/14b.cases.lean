/-! Cases -/
theorem cs_11 : okEnds (oRun cfA (cxS ht0 6) (oMeth cfA (cxM ht0) 60) 350 350 100000 (swS 11)) = true := by decide +kernel
theorem cs_22 : okEnds (oRun cfA (cxS ht0 6) (oMeth cfA (cxM ht0) 60) 350 350 100000 (swS 22)) = true := by decide +kernel
theorem cs_23 : okEnds (oRun cfA (cxS ht0 6) (oMeth cfA (cxM ht0) 60) 350 350 100000 (swS 23)) = true := by decide +kernel
theorem cs_24 : okEnds (oRun cfA (cxS ht0 6) (oMeth cfA (cxM ht0) 60) 350 350 100000 (swS 24)) = true := by decide +kernel
theorem cs_25 : okEnds (oRun cfA (cxS ht0 6) (oMeth cfA (cxM ht0) 60) 350 350 100000 (swS 25)) = true := by decide +kernel
theorem cs_26 : okEnds (oRun cfA (cxS ht0 6) (oMeth cfA (cxM ht0) 60) 350 350 100000 (swS 26)) = true := by decide +kernel
theorem cs_27 : okEnds (oRun cfA (cxS ht0 6) (oMeth cfA (cxM ht0) 60) 350 350 100000 (swS 27)) = true := by decide +kernel
theorem cs_28 : okEnds (oRun cfA (cxS ht0 6) (oMeth cfA (cxM ht0) 60) 350 350 100000 (swS 28)) = true := by decide +kernel
theorem cs_29 : okEnds (oRun cfA (cxS ht0 6) (oMeth cfA (cxM ht0) 60) 350 350 100000 (swS 29)) = true := by decide +kernel
theorem cs_30 : okEnds (oRun cfA (cxS ht0 6) (oMeth cfA (cxM ht0) 60) 350 350 100000 (swS 30)) = true := by decide +kernel
