/-! Case grow -/
theorem cs_21 : okEnds (oRun cfA (cxS hA 6) (oMeth cfA (cxM hA) 60) 350 350 100000 (swS 21)) = true := by decide +kernel
