/-! the tables are right: the law, a piece more -/
theorem zt_343_800 : z_ckL z_m343 z_i343 z_h343 800 ((z_c343.drop 800).take 100) ((z_i343.drop 800).take 100) = true := by decide +kernel
theorem zt_343_L900 : z_ckL z_m343 z_i343 z_h343 900 (z_c343.drop 900) (z_i343.drop 900) = true := by decide +kernel
