/-! the tables are right: the law, a piece more -/
theorem zt_343_800 : z_ckL z_m343 z_i343 z_h343 800 ((z_c343.drop 800).take 20) ((z_i343.drop 800).take 20) = true := by decide +kernel
theorem zt_343_820 : z_ckL z_m343 z_i343 z_h343 820 ((z_c343.drop 820).take 20) ((z_i343.drop 820).take 20) = true := by decide +kernel
theorem zt_343_840 : z_ckL z_m343 z_i343 z_h343 840 ((z_c343.drop 840).take 20) ((z_i343.drop 840).take 20) = true := by decide +kernel
theorem zt_343_860 : z_ckL z_m343 z_i343 z_h343 860 ((z_c343.drop 860).take 20) ((z_i343.drop 860).take 20) = true := by decide +kernel
theorem zt_343_880 : z_ckL z_m343 z_i343 z_h343 880 ((z_c343.drop 880).take 20) ((z_i343.drop 880).take 20) = true := by decide +kernel
