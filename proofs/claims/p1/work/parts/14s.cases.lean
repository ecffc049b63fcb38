/-! Cases whole, holds, better -/
theorem cs_13_0 : okEnds (oRun cfA (cxS hA 6) (oMeth cfA (cxM hA) 60) 350 350 100000 (narS (swS 13) 1 (-2147483648) (-1))) = true := by decide +kernel
theorem cs_13_1 : okEnds (oRun cfA (cxS hA 6) (oMeth cfA (cxM hA) 60) 350 350 100000 (narS (swS 13) 1 0 0)) = true := by decide +kernel
theorem cs_13_2 : okEnds (oRun cfA (cxS hA 6) (oMeth cfA (cxM hA) 60) 350 350 100000 (narS (swS 13) 1 1 1)) = true := by decide +kernel
theorem cs_13_3 : okEnds (oRun cfA (cxS hA 6) (oMeth cfA (cxM hA) 60) 350 350 100000 (narS (swS 13) 1 2 2)) = true := by decide +kernel
theorem cs_13_4 : okEnds (oRun cfA (cxS hA 6) (oMeth cfA (cxM hA) 60) 350 350 100000 (narS (swS 13) 1 3 3)) = true := by decide +kernel
theorem cs_13_5 : okEnds (oRun cfA (cxS hA 6) (oMeth cfA (cxM hA) 60) 350 350 100000 (narS (swS 13) 1 4 4)) = true := by decide +kernel
theorem cs_13_6 : okEnds (oRun cfA (cxS hA 6) (oMeth cfA (cxM hA) 60) 350 350 100000 (narS (swS 13) 1 5 5)) = true := by decide +kernel
theorem cs_13_7 : okEnds (oRun cfA (cxS hA 6) (oMeth cfA (cxM hA) 60) 350 350 100000 (narS (swS 13) 1 6 6)) = true := by decide +kernel
theorem cs_13_8 : okEnds (oRun cfA (cxS hA 6) (oMeth cfA (cxM hA) 60) 350 350 100000 (narS (swS 13) 1 7 7)) = true := by decide +kernel
theorem cs_13_9 : okEnds (oRun cfA (cxS hA 6) (oMeth cfA (cxM hA) 60) 350 350 100000 (narS (swS 13) 1 8 2147483647)) = true := by decide +kernel
theorem cs_18 : okEnds (oRun cfA (cxS hA 6) (oMeth cfA (cxM hA) 60) 350 350 100000 (swS 18)) = true := by decide +kernel
theorem cs_20 : okEnds (oRun cfA (cxS hA 6) (oMeth cfA (cxM hA) 60) 350 350 100000 (swS 20)) = true := by decide +kernel
