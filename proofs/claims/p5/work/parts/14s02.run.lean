/-! The run, cut: steps 1390 3757 1991 1390 4509 1991 1390 5388 2055 1390 -/
theorem sg_r20 : okEnds0 (oSeg (stE rS_21) cfA (cxS htN 156) (oMeth cfA (cxM htN) 60) 350 350 3000 [rS_20] []) = true := by decide +kernel
theorem sg_r21 : okEnds0 (oSeg (stE rS_22) cfA (cxS htN 156) (oMeth cfA (cxM htN) 60) 350 350 3000 [rS_21] []) = true := by decide +kernel
theorem sg_r22 : okEnds0 (oSeg (stE rS_23) cfA (cxS htN 156) (oMeth cfA (cxM htN) 60) 350 350 3000 [rS_22] []) = true := by decide +kernel
theorem sg_r23 : okEnds0 (oSeg (stE rS_24) cfA (cxS htN 156) (oMeth cfA (cxM htN) 60) 350 350 3000 [rS_23] []) = true := by decide +kernel
theorem sg_r24 : okEnds0 (oSeg (stE rS_25) cfA (cxS htN 156) (oMeth cfA (cxM htN) 60) 350 350 3000 [rS_24] []) = true := by decide +kernel
theorem sg_r25 : okEnds0 (oSeg (stE rS_26) cfA (cxS htN 156) (oMeth cfA (cxM htN) 60) 350 350 3000 [rS_25] []) = true := by decide +kernel
theorem sg_r26 : okEnds0 (oSeg (stE rS_27) cfA (cxS htN 156) (oMeth cfA (cxM htN) 60) 350 350 3000 [rS_26] []) = true := by decide +kernel
theorem sg_r27 : okEnds0 (oSeg (stE rS_28) cfA (cxS htN 156) (oMeth cfA (cxM htN) 60) 350 350 3000 [rS_27] []) = true := by decide +kernel
theorem sg_r28 : okEnds0 (oSeg (stE rS_29) cfA (cxS htN 156) (oMeth cfA (cxM htN) 60) 350 350 3000 [rS_28] []) = true := by decide +kernel
theorem sg_r29 : okEnds0 (oSeg (stE rS_30) cfA (cxS htN 156) (oMeth cfA (cxM htN) 60) 350 350 3000 [rS_29] []) = true := by decide +kernel
