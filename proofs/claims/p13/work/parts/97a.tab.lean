/-! the tables are right: the next methods -/
theorem zt_301 : z_ckM z_m301 z_c301 z_i301 z_h301 = true := z_ckF_ok (c := 12) rfl rfl (plainFor_of_name zpn_12) rfl (by decide +kernel)
theorem zt_302 : z_ckM z_m302 z_c302 z_i302 z_h302 = true := z_ckF_ok (c := 12) rfl rfl (plainFor_of_name zpn_12) rfl (by decide +kernel)
theorem zt_303 : z_ckM z_m303 z_c303 z_i303 z_h303 = true := z_ckF_ok (c := 12) rfl rfl (plainFor_of_name zpn_12) rfl (by decide +kernel)
theorem zt_304 : z_ckM z_m304 z_c304 z_i304 z_h304 = true := z_ckF_ok (c := 12) rfl rfl (plainFor_of_name zpn_12) rfl (by decide +kernel)
theorem zt_305 : z_ckM z_m305 z_c305 z_i305 z_h305 = true := z_ckF_ok (c := 12) rfl rfl (plainFor_of_name zpn_12) rfl (by decide +kernel)
theorem zt_306 : z_ckM z_m306 z_c306 z_i306 z_h306 = true := z_ckF_ok (c := 12) rfl rfl (plainFor_of_name zpn_12) rfl (by decide +kernel)
theorem zt_307 : z_ckM z_m307 z_c307 z_i307 z_h307 = true := z_ckF_ok (c := 12) rfl rfl (plainFor_of_name zpn_12) rfl (by decide +kernel)
theorem zt_308 : z_ckM z_m308 z_c308 z_i308 z_h308 = true := z_ckF_ok (c := 12) rfl rfl (plainFor_of_name zpn_12) rfl (by decide +kernel)
theorem zt_309 : z_ckM z_m309 z_c309 z_i309 z_h309 = true := z_ckF_ok (c := 12) rfl rfl (plainFor_of_name zpn_12) rfl (by decide +kernel)
theorem zt_310 : z_ckM z_m310 z_c310 z_i310 z_h310 = true := z_ckF_ok (c := 12) rfl rfl (plainFor_of_name zpn_12) rfl (by decide +kernel)
theorem zt_311 : z_ckM z_m311 z_c311 z_i311 z_h311 = true := z_ckF_ok (c := 13) rfl rfl (by decide +kernel) rfl (by decide +kernel)
theorem zt_312 : z_ckM z_m312 z_c312 z_i312 z_h312 = true := z_ckF_ok (c := 14) rfl rfl (by decide +kernel) rfl (by decide +kernel)
theorem zt_313 : z_ckM z_m313 z_c313 z_i313 z_h313 = true := z_ckF_ok (c := 15) rfl rfl (by decide +kernel) rfl (by decide +kernel)
theorem zt_314 : z_ckM z_m314 z_c314 z_i314 z_h314 = true := z_ckF_ok (c := 15) rfl rfl (by decide +kernel) rfl (by decide +kernel)
theorem zt_315 : z_ckM z_m315 z_c315 z_i315 z_h315 = true := z_ckF_ok (c := 16) rfl rfl (plainFor_of_name zpn_16) rfl (by decide +kernel)
theorem zt_316 : z_ckM z_m316 z_c316 z_i316 z_h316 = true := z_ckF_ok (c := 16) rfl rfl (plainFor_of_name zpn_16) rfl (by decide +kernel)
theorem zt_317 : z_ckM z_m317 z_c317 z_i317 z_h317 = true := z_ckF_ok (c := 16) rfl rfl (plainFor_of_name zpn_16) rfl (by decide +kernel)
theorem zt_318 : z_ckM z_m318 z_c318 z_i318 z_h318 = true := z_ckF_ok (c := 16) rfl rfl (plainFor_of_name zpn_16) rfl (by decide +kernel)
theorem zt_319 : z_ckM z_m319 z_c319 z_i319 z_h319 = true := z_ckF_ok (c := 16) rfl rfl (plainFor_of_name zpn_16) rfl (by decide +kernel)
theorem zt_320 : z_ckM z_m320 z_c320 z_i320 z_h320 = true := z_ckF_ok (c := 16) rfl rfl (plainFor_of_name zpn_16) rfl (by decide +kernel)
theorem zt_321 : z_ckM z_m321 z_c321 z_i321 z_h321 = true := z_ckF_ok (c := 16) rfl rfl (plainFor_of_name zpn_16) rfl (by decide +kernel)
theorem zt_322 : z_ckM z_m322 z_c322 z_i322 z_h322 = true := z_ckF_ok (c := 16) rfl rfl (plainFor_of_name zpn_16) rfl (by decide +kernel)
theorem zt_323 : z_ckM z_m323 z_c323 z_i323 z_h323 = true := z_ckF_ok (c := 16) rfl rfl (plainFor_of_name zpn_16) rfl (by decide +kernel)
theorem zt_324 : z_ckM z_m324 z_c324 z_i324 z_h324 = true := z_ckF_ok (c := 16) rfl rfl (plainFor_of_name zpn_16) rfl (by decide +kernel)
theorem zt_325 : z_ckM z_m325 z_c325 z_i325 z_h325 = true := z_ckF_ok (c := 16) rfl rfl (plainFor_of_name zpn_16) rfl (by decide +kernel)
theorem zt_326 : z_ckM z_m326 z_c326 z_i326 z_h326 = true := z_ckF_ok (c := 16) rfl rfl (plainFor_of_name zpn_16) rfl (by decide +kernel)
theorem zt_327 : z_ckM z_m327 z_c327 z_i327 z_h327 = true := z_ckF_ok (c := 16) rfl rfl (plainFor_of_name zpn_16) rfl (by decide +kernel)
theorem zt_328 : z_ckM z_m328 z_c328 z_i328 z_h328 = true := z_ckF_ok (c := 16) rfl rfl (plainFor_of_name zpn_16) rfl (by decide +kernel)
theorem zt_329 : z_ckM z_m329 z_c329 z_i329 z_h329 = true := z_ckF_ok (c := 16) rfl rfl (plainFor_of_name zpn_16) rfl (by decide +kernel)
theorem zt_330 : z_ckM z_m330 z_c330 z_i330 z_h330 = true := z_ckF_ok (c := 16) rfl rfl (plainFor_of_name zpn_16) rfl (by decide +kernel)
theorem zt_331 : z_ckM z_m331 z_c331 z_i331 z_h331 = true := z_ckF_ok (c := 16) rfl rfl (plainFor_of_name zpn_16) rfl (by decide +kernel)
theorem zt_332 : z_ckM z_m332 z_c332 z_i332 z_h332 = true := z_ckF_ok (c := 16) rfl rfl (plainFor_of_name zpn_16) rfl (by decide +kernel)
theorem zt_333 : z_ckM z_m333 z_c333 z_i333 z_h333 = true := z_ckF_ok (c := 16) rfl rfl (plainFor_of_name zpn_16) rfl (by decide +kernel)
theorem zt_334 : z_ckM z_m334 z_c334 z_i334 z_h334 = true := z_ckF_ok (c := 16) rfl rfl (plainFor_of_name zpn_16) rfl (by decide +kernel)
theorem zt_335 : z_ckM z_m335 z_c335 z_i335 z_h335 = true := z_ckF_ok (c := 16) rfl rfl (plainFor_of_name zpn_16) rfl (by decide +kernel)
theorem zt_336 : z_ckM z_m336 z_c336 z_i336 z_h336 = true := z_ckF_ok (c := 16) rfl rfl (plainFor_of_name zpn_16) rfl (by decide +kernel)
theorem zt_337 : z_ckM z_m337 z_c337 z_i337 z_h337 = true := z_ckF_ok (c := 16) rfl rfl (plainFor_of_name zpn_16) rfl (by decide +kernel)
theorem zt_338 : z_ckM z_m338 z_c338 z_i338 z_h338 = true := z_ckF_ok (c := 16) rfl rfl (plainFor_of_name zpn_16) rfl (by decide +kernel)
theorem zt_339 : z_ckM z_m339 z_c339 z_i339 z_h339 = true := z_ckF_ok (c := 16) rfl rfl (plainFor_of_name zpn_16) rfl (by decide +kernel)
theorem zt_340 : z_ckM z_m340 z_c340 z_i340 z_h340 = true := z_ckF_ok (c := 16) rfl rfl (plainFor_of_name zpn_16) rfl (by decide +kernel)
theorem zt_341 : z_ckM z_m341 z_c341 z_i341 z_h341 = true := z_ckF_ok (c := 16) rfl rfl (plainFor_of_name zpn_16) rfl (by decide +kernel)
theorem zt_342 : z_ckM z_m342 z_c342 z_i342 z_h342 = true := z_ckF_ok (c := 16) rfl rfl (plainFor_of_name zpn_16) rfl (by decide +kernel)
theorem z_ckL_cut {M : zMi} {is : List zJ} {hs : List zHd} : ∀ (n k : Nat) (cs : List zI) (qs : List zJ), z_ckL M is hs k (cs.take n) (qs.take n) = true → z_ckL M is hs (k + n) (cs.drop n) (qs.drop n) = true → z_ckL M is hs k cs qs = true
  | 0, k, cs, qs, _, h2 => h2
  | n + 1, k, [], [], _, _ => rfl
  | n + 1, k, [], _ :: _, h1, _ => by cases h1
  | n + 1, k, _ :: _, [], h1, _ => by cases h1
  | n + 1, k, c :: cs, q :: qs, h1, h2 => by
    rw [List.take_succ_cons, List.take_succ_cons, z_ckL, Bool.and_eq_true] at h1
    rw [List.drop_succ_cons, List.drop_succ_cons, show k + (n + 1) = k + 1 + n by omega] at h2
    rw [z_ckL, Bool.and_eq_true]
    exact ⟨h1.1, z_ckL_cut n (k + 1) cs qs h1.2 h2⟩
