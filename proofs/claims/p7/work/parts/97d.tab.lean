/-! the tables are right: the law, a piece more -/
theorem zt_343_600 : z_ckL z_m343 z_i343 z_h343 600 ((z_c343.drop 600).take 20) ((z_i343.drop 600).take 20) = true := by decide +kernel
theorem zt_343_620 : z_ckL z_m343 z_i343 z_h343 620 ((z_c343.drop 620).take 20) ((z_i343.drop 620).take 20) = true := by decide +kernel
theorem zt_343_640 : z_ckL z_m343 z_i343 z_h343 640 ((z_c343.drop 640).take 20) ((z_i343.drop 640).take 20) = true := by decide +kernel
theorem zt_343_660 : z_ckL z_m343 z_i343 z_h343 660 ((z_c343.drop 660).take 20) ((z_i343.drop 660).take 20) = true := by decide +kernel
theorem zt_343_680 : z_ckL z_m343 z_i343 z_h343 680 ((z_c343.drop 680).take 20) ((z_i343.drop 680).take 20) = true := by decide +kernel
