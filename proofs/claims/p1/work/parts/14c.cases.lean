/-! Cases -/
theorem cs_31 : okEnds (oRun cfA (cxS ht0 6) (oMeth cfA (cxM ht0) 60) 350 350 100000 (swS 31)) = true := by decide +kernel
theorem cs_32 : okEnds (oRun cfA (cxS ht0 6) (oMeth cfA (cxM ht0) 60) 350 350 100000 (swS 32)) = true := by decide +kernel
theorem cs_33 : okEnds (oRun cfA (cxS ht0 6) (oMeth cfA (cxM ht0) 60) 350 350 100000 (swS 33)) = true := by decide +kernel
theorem cs_34 : okEnds (oRun cfA (cxS ht0 6) (oMeth cfA (cxM ht0) 60) 350 350 100000 (swS 34)) = true := by decide +kernel
theorem cs_35 : okEnds (oRun cfA (cxS ht0 6) (oMeth cfA (cxM ht0) 60) 350 350 100000 (swS 35)) = true := by decide +kernel
theorem cs_37 : okEnds (oRun cfA (cxS ht0 6) (oMeth cfA (cxM ht0) 60) 350 350 100000 (swS 37)) = true := by decide +kernel
theorem cs_40 : okEnds (oRun cfA (cxS ht0 6) (oMeth cfA (cxM ht0) 60) 350 350 100000 (swS 40)) = true := by decide +kernel
theorem cs_41 : okEnds (oRun cfA (cxS ht0 6) (oMeth cfA (cxM ht0) 60) 350 350 100000 (swS 41)) = true := by decide +kernel
theorem cs_42 : okEnds (oRun cfA (cxS ht0 6) (oMeth cfA (cxM ht0) 60) 350 350 100000 (swS 42)) = true := by decide +kernel
theorem cs_43 : okEnds (oRun cfA (cxS ht0 6) (oMeth cfA (cxM ht0) 60) 350 350 100000 (swS 43)) = true := by decide +kernel
