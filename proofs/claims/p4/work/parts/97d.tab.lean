/-! the tables are right: the law, a piece more -/
theorem zt_343_600 : z_ckL z_m343 z_i343 z_h343 600 ((z_c343.drop 600).take 100) ((z_i343.drop 600).take 100) = true := by decide +kernel
theorem zt_343_700 : z_ckL z_m343 z_i343 z_h343 700 ((z_c343.drop 700).take 100) ((z_i343.drop 700).take 100) = true := by decide +kernel
