/-! The run, cut: steps 6304 2055 228 -/
theorem sg_r30 : okEnds0 (oSeg (stE rS_31) cfA (cxS htN 156) (oMeth cfA (cxM htN) 60) 350 350 3000 [rS_30] []) = true := by decide +kernel
theorem sg_r31 : okEnds0 (oSeg (stE rS_32) cfA (cxS htN 156) (oMeth cfA (cxM htN) 60) 350 350 3000 [rS_31] []) = true := by decide +kernel
theorem sg_r32 : okEnds0 (oRun cfA (cxS htN 156) (oMeth cfA (cxM htN) 60) 350 350 3000 rS_32) = true := by decide +kernel
