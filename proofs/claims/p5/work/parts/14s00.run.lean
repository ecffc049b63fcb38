/-! The run, cut: steps 1386 2684 1390 2780 1390 2958 1390 3218 1390 1569 -/
theorem sg_r0 : okEnds0 (oSeg (stE rS_1) cfA (cxS htN 156) (oMeth cfA (cxM htN) 60) 350 350 3000 [rS_0] []) = true := by decide +kernel
theorem sg_r1 : okEnds0 (oSeg (stE rS_2) cfA (cxS htN 156) (oMeth cfA (cxM htN) 60) 350 350 3000 [rS_1] []) = true := by decide +kernel
theorem sg_r2 : okEnds0 (oSeg (stE rS_3) cfA (cxS htN 156) (oMeth cfA (cxM htN) 60) 350 350 3000 [rS_2] []) = true := by decide +kernel
theorem sg_r3 : okEnds0 (oSeg (stE rS_4) cfA (cxS htN 156) (oMeth cfA (cxM htN) 60) 350 350 3000 [rS_3] []) = true := by decide +kernel
theorem sg_r4 : okEnds0 (oSeg (stE rS_5) cfA (cxS htN 156) (oMeth cfA (cxM htN) 60) 350 350 3000 [rS_4] []) = true := by decide +kernel
theorem sg_r5 : okEnds0 (oSeg (stE rS_6) cfA (cxS htN 156) (oMeth cfA (cxM htN) 60) 350 350 3000 [rS_5] []) = true := by decide +kernel
theorem sg_r6 : okEnds0 (oSeg (stE rS_7) cfA (cxS htN 156) (oMeth cfA (cxM htN) 60) 350 350 3000 [rS_6] []) = true := by decide +kernel
theorem sg_r7 : okEnds0 (oSeg (stE rS_8) cfA (cxS htN 156) (oMeth cfA (cxM htN) 60) 350 350 3000 [rS_7] []) = true := by decide +kernel
theorem sg_r8 : okEnds0 (oSeg (stE rS_9) cfA (cxS htN 156) (oMeth cfA (cxM htN) 60) 350 350 3000 [rS_8] []) = true := by decide +kernel
theorem sg_r9 : okEnds0 (oSeg (stE rS_10) cfA (cxS htN 156) (oMeth cfA (cxM htN) 60) 350 350 3000 [rS_9] []) = true := by decide +kernel
