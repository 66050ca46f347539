/-! the tables are right: the law, a piece more -/
theorem zt_343_0 : z_ckL z_m343 z_i343 z_h343 0 ((z_c343.drop 0).take 100) ((z_i343.drop 0).take 100) = true := by decide +kernel
theorem zt_343_100 : z_ckL z_m343 z_i343 z_h343 100 ((z_c343.drop 100).take 100) ((z_i343.drop 100).take 100) = true := by decide +kernel
theorem zt_343_200 : z_ckL z_m343 z_i343 z_h343 200 ((z_c343.drop 200).take 100) ((z_i343.drop 200).take 100) = true := by decide +kernel
