/-! the tables are right: the law, a piece more -/
theorem zt_343_300 : z_ckL z_m343 z_i343 z_h343 300 ((z_c343.drop 300).take 100) ((z_i343.drop 300).take 100) = true := by decide +kernel
theorem zt_343_400 : z_ckL z_m343 z_i343 z_h343 400 ((z_c343.drop 400).take 100) ((z_i343.drop 400).take 100) = true := by decide +kernel
theorem zt_343_500 : z_ckL z_m343 z_i343 z_h343 500 ((z_c343.drop 500).take 100) ((z_i343.drop 500).take 100) = true := by decide +kernel
