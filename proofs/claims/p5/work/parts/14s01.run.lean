/-! The run, cut: steps 1991 1390 1993 1991 1390 2499 1991 1390 3087 1991 -/
theorem sg_r10 : okEnds0 (oSeg (stE rS_11) cfA (cxS htN 156) (oMeth cfA (cxM htN) 60) 350 350 3000 [rS_10] []) = true := by decide +kernel
theorem sg_r11 : okEnds0 (oSeg (stE rS_12) cfA (cxS htN 156) (oMeth cfA (cxM htN) 60) 350 350 3000 [rS_11] []) = true := by decide +kernel
theorem sg_r12 : okEnds0 (oSeg (stE rS_13) cfA (cxS htN 156) (oMeth cfA (cxM htN) 60) 350 350 3000 [rS_12] []) = true := by decide +kernel
theorem sg_r13 : okEnds0 (oSeg (stE rS_14) cfA (cxS htN 156) (oMeth cfA (cxM htN) 60) 350 350 3000 [rS_13] []) = true := by decide +kernel
theorem sg_r14 : okEnds0 (oSeg (stE rS_15) cfA (cxS htN 156) (oMeth cfA (cxM htN) 60) 350 350 3000 [rS_14] []) = true := by decide +kernel
theorem sg_r15 : okEnds0 (oSeg (stE rS_16) cfA (cxS htN 156) (oMeth cfA (cxM htN) 60) 350 350 3000 [rS_15] []) = true := by decide +kernel
theorem sg_r16 : okEnds0 (oSeg (stE rS_17) cfA (cxS htN 156) (oMeth cfA (cxM htN) 60) 350 350 3000 [rS_16] []) = true := by decide +kernel
theorem sg_r17 : okEnds0 (oSeg (stE rS_18) cfA (cxS htN 156) (oMeth cfA (cxM htN) 60) 350 350 3000 [rS_17] []) = true := by decide +kernel
theorem sg_r18 : okEnds0 (oSeg (stE rS_19) cfA (cxS htN 156) (oMeth cfA (cxM htN) 60) 350 350 3000 [rS_18] []) = true := by decide +kernel
theorem sg_r19 : okEnds0 (oSeg (stE rS_20) cfA (cxS htN 156) (oMeth cfA (cxM htN) 60) 350 350 3000 [rS_19] []) = true := by decide +kernel
