/-! the tables are right: the law, a piece more -/
theorem zt_343_700 : z_ckL z_m343 z_i343 z_h343 700 ((z_c343.drop 700).take 20) ((z_i343.drop 700).take 20) = true := by decide +kernel
theorem zt_343_720 : z_ckL z_m343 z_i343 z_h343 720 ((z_c343.drop 720).take 20) ((z_i343.drop 720).take 20) = true := by decide +kernel
theorem zt_343_740 : z_ckL z_m343 z_i343 z_h343 740 ((z_c343.drop 740).take 20) ((z_i343.drop 740).take 20) = true := by decide +kernel
theorem zt_343_760 : z_ckL z_m343 z_i343 z_h343 760 ((z_c343.drop 760).take 20) ((z_i343.drop 760).take 20) = true := by decide +kernel
theorem zt_343_780 : z_ckL z_m343 z_i343 z_h343 780 ((z_c343.drop 780).take 20) ((z_i343.drop 780).take 20) = true := by decide +kernel
