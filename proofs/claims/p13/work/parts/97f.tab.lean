/-! the tables are right: the law, a piece more -/
set_option maxRecDepth 100000 in
theorem zt_343_0 : z_ckL z_m343 z_i343 z_h343 0 ((z_c343.drop 0).take 100) ((z_i343.drop 0).take 100) = true := z_ckP_ok (c := 16) rfl rfl (by decide +kernel)
set_option maxRecDepth 100000 in
theorem zt_343_100 : z_ckL z_m343 z_i343 z_h343 100 ((z_c343.drop 100).take 100) ((z_i343.drop 100).take 100) = true := z_ckP_ok (c := 16) rfl rfl (by decide +kernel)
set_option maxRecDepth 100000 in
theorem zt_343_200 : z_ckL z_m343 z_i343 z_h343 200 ((z_c343.drop 200).take 100) ((z_i343.drop 200).take 100) = true := z_ckP_ok (c := 16) rfl rfl (by decide +kernel)
set_option maxRecDepth 100000 in
theorem zt_343_300 : z_ckL z_m343 z_i343 z_h343 300 ((z_c343.drop 300).take 100) ((z_i343.drop 300).take 100) = true := z_ckP_ok (c := 16) rfl rfl (by decide +kernel)
set_option maxRecDepth 100000 in
theorem zt_343_400 : z_ckL z_m343 z_i343 z_h343 400 ((z_c343.drop 400).take 100) ((z_i343.drop 400).take 100) = true := z_ckP_ok (c := 16) rfl rfl (by decide +kernel)
set_option maxRecDepth 100000 in
theorem zt_343_500 : z_ckL z_m343 z_i343 z_h343 500 ((z_c343.drop 500).take 100) ((z_i343.drop 500).take 100) = true := z_ckP_ok (c := 16) rfl rfl (by decide +kernel)
set_option maxRecDepth 100000 in
theorem zt_343_600 : z_ckL z_m343 z_i343 z_h343 600 ((z_c343.drop 600).take 100) ((z_i343.drop 600).take 100) = true := z_ckP_ok (c := 16) rfl rfl (by decide +kernel)
set_option maxRecDepth 100000 in
theorem zt_343_700 : z_ckL z_m343 z_i343 z_h343 700 ((z_c343.drop 700).take 100) ((z_i343.drop 700).take 100) = true := z_ckP_ok (c := 16) rfl rfl (by decide +kernel)
set_option maxRecDepth 100000 in
theorem zt_343_800 : z_ckL z_m343 z_i343 z_h343 800 ((z_c343.drop 800).take 100) ((z_i343.drop 800).take 100) = true := z_ckP_ok (c := 16) rfl rfl (by decide +kernel)
set_option maxRecDepth 100000 in
theorem zt_343_L900 : z_ckL z_m343 z_i343 z_h343 900 (z_c343.drop 900) (z_i343.drop 900) = true := z_ckE_ok (c := 16) rfl rfl (by decide +kernel)
theorem zt_343_L800 : z_ckL z_m343 z_i343 z_h343 800 (z_c343.drop 800) (z_i343.drop 800) = true := z_ckL_cut 100 800 _ _ zt_343_800 (by rw [List.drop_drop, List.drop_drop]; exact zt_343_L900)
theorem zt_343_L700 : z_ckL z_m343 z_i343 z_h343 700 (z_c343.drop 700) (z_i343.drop 700) = true := z_ckL_cut 100 700 _ _ zt_343_700 (by rw [List.drop_drop, List.drop_drop]; exact zt_343_L800)
theorem zt_343_L600 : z_ckL z_m343 z_i343 z_h343 600 (z_c343.drop 600) (z_i343.drop 600) = true := z_ckL_cut 100 600 _ _ zt_343_600 (by rw [List.drop_drop, List.drop_drop]; exact zt_343_L700)
theorem zt_343_L500 : z_ckL z_m343 z_i343 z_h343 500 (z_c343.drop 500) (z_i343.drop 500) = true := z_ckL_cut 100 500 _ _ zt_343_500 (by rw [List.drop_drop, List.drop_drop]; exact zt_343_L600)
theorem zt_343_L400 : z_ckL z_m343 z_i343 z_h343 400 (z_c343.drop 400) (z_i343.drop 400) = true := z_ckL_cut 100 400 _ _ zt_343_400 (by rw [List.drop_drop, List.drop_drop]; exact zt_343_L500)
theorem zt_343_L300 : z_ckL z_m343 z_i343 z_h343 300 (z_c343.drop 300) (z_i343.drop 300) = true := z_ckL_cut 100 300 _ _ zt_343_300 (by rw [List.drop_drop, List.drop_drop]; exact zt_343_L400)
theorem zt_343_L200 : z_ckL z_m343 z_i343 z_h343 200 (z_c343.drop 200) (z_i343.drop 200) = true := z_ckL_cut 100 200 _ _ zt_343_200 (by rw [List.drop_drop, List.drop_drop]; exact zt_343_L300)
theorem zt_343_L100 : z_ckL z_m343 z_i343 z_h343 100 (z_c343.drop 100) (z_i343.drop 100) = true := z_ckL_cut 100 100 _ _ zt_343_100 (by rw [List.drop_drop, List.drop_drop]; exact zt_343_L200)
theorem zt_343_L0 : z_ckL z_m343 z_i343 z_h343 0 (z_c343.drop 0) (z_i343.drop 0) = true := z_ckL_cut 100 0 _ _ zt_343_0 (by rw [List.drop_drop, List.drop_drop]; exact zt_343_L100)
theorem zt_343 : z_ckM z_m343 z_c343 z_i343 z_h343 = true := by
  have h := zt_343_L0
  rw [List.drop_zero, List.drop_zero] at h
  unfold z_ckM
  rw [h, Bool.and_true]
  decide +kernel
theorem zt_344 : z_ckM z_m344 z_c344 z_i344 z_h344 = true := z_ckF_ok (c := 12) rfl rfl (plainFor_of_name zpn_12) rfl (by decide +kernel)
theorem zt_g7 : z_ck4 z_ms_7 z_cs_7 z_is_7 z_hs_7 := ⟨zt_301, zt_302, zt_303, zt_304, zt_305, zt_306, zt_307, zt_308, zt_309, zt_310, zt_311, zt_312, zt_313, zt_314, zt_315, zt_316, zt_317, zt_318, zt_319, zt_320, zt_321, zt_322, zt_323, zt_324, zt_325, zt_326, zt_327, zt_328, zt_329, zt_330, zt_331, zt_332, zt_333, zt_334, zt_335, zt_336, zt_337, zt_338, zt_339, zt_340, zt_341, zt_342, zt_343, trivial⟩
theorem zt_g8 : z_ck4 z_ms_8 z_cs_8 z_is_8 z_hs_8 := ⟨zt_344, trivial⟩
