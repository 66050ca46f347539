/-! the kernel runs the checker -/
theorem zK238 : zck z_tt zCtl zCand 238 zC238 0 4000 = true := by decide +kernel
theorem zK239 : zck z_tt zCtl zCand 239 zC239 5 4000 = true := by decide +kernel
theorem zK240 : zck z_tt zCtl zCand 240 zC240 5 4000 = true := by decide +kernel
