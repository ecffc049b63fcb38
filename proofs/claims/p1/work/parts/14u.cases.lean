/-! Case neck -/
theorem cs_14_0 : okEnds (oRun cfA (cxS hA 6) (oMeth cfA (cxM hA) 60) 350 350 100000 (narS (swS 14) 1 (-2147483648) (-1))) = true := by decide +kernel
theorem cs_14_1_0 : okEnds (oRun cfA (cxS hA 6) (oMeth cfA (cxM hA) 60) 350 350 100000 (narS (narS (swS 14) 1 0 0) 2 (-2147483648) (-1))) = true := by decide +kernel
theorem cs_14_1_1 : okEnds (oRun cfA (cxS hA 6) (oMeth cfA (cxM hA) 60) 350 350 100000 (narS (narS (swS 14) 1 0 0) 2 0 2147483647)) = true := by decide +kernel
theorem cs_14_2 : okEnds (oRun cfA (cxS hA 6) (oMeth cfA (cxM hA) 60) 350 350 100000 (narS (swS 14) 1 1 1)) = true := by decide +kernel
theorem cs_14_3 : okEnds (oRun cfA (cxS hA 6) (oMeth cfA (cxM hA) 60) 350 350 100000 (narS (swS 14) 1 2 2)) = true := by decide +kernel
theorem cs_14_4 : okEnds (oRun cfA (cxS hA 6) (oMeth cfA (cxM hA) 60) 350 350 100000 (narS (swS 14) 1 3 3)) = true := by decide +kernel
theorem cs_14_5 : okEnds (oRun cfA (cxS hA 6) (oMeth cfA (cxM hA) 60) 350 350 100000 (narS (swS 14) 1 4 4)) = true := by decide +kernel
theorem cs_14_6 : okEnds (oRun cfA (cxS hA 6) (oMeth cfA (cxM hA) 60) 350 350 100000 (narS (swS 14) 1 5 5)) = true := by decide +kernel
theorem cs_14_7 : okEnds (oRun cfA (cxS hA 6) (oMeth cfA (cxM hA) 60) 350 350 100000 (narS (swS 14) 1 6 6)) = true := by decide +kernel
theorem cs_14_8 : okEnds (oRun cfA (cxS hA 6) (oMeth cfA (cxM hA) 60) 350 350 100000 (narS (swS 14) 1 7 7)) = true := by decide +kernel
theorem cs_14_9 : okEnds (oRun cfA (cxS hA 6) (oMeth cfA (cxM hA) 60) 350 350 100000 (narS (swS 14) 1 8 2147483647)) = true := by decide +kernel
