/-! the kernel runs the checker -/
theorem zK206 : zck z_tt zCtl zCand 206 zC206 5 4000 = true := zckF_ok (by decide +kernel)
theorem zK207 : zck z_tt zCtl zCand 207 zC207 0 4000 = true := zckF_ok (by decide +kernel)
theorem zK208 : zck z_tt zCtl zCand 208 zC208 5 4000 = true := zckF_ok (by decide +kernel)
theorem zK209 : zck z_tt zCtl zCand 209 zC209 5 4000 = true := zckF_ok (by decide +kernel)
