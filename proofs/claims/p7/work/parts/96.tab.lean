/-! the tables are right: the next methods -/
theorem zq9_258 : z_ckq [(z_m258, z_c258, z_i258, z_h258), (z_m259, z_c259, z_i259, z_h259), (z_m260, z_c260, z_i260, z_h260), (z_m261, z_c261, z_i261, z_h261), (z_m262, z_c262, z_i262, z_h262), (z_m263, z_c263, z_i263, z_h263), (z_m264, z_c264, z_i264, z_h264)] = true := by decide +kernel
theorem zt_258 : z_ckM z_m258 z_c258 z_i258 z_h258 = true := z_ckq_at (k := 0) zq9_258 rfl
theorem zt_259 : z_ckM z_m259 z_c259 z_i259 z_h259 = true := z_ckq_at (k := 1) zq9_258 rfl
theorem zt_260 : z_ckM z_m260 z_c260 z_i260 z_h260 = true := z_ckq_at (k := 2) zq9_258 rfl
theorem zt_261 : z_ckM z_m261 z_c261 z_i261 z_h261 = true := z_ckq_at (k := 3) zq9_258 rfl
theorem zt_262 : z_ckM z_m262 z_c262 z_i262 z_h262 = true := z_ckq_at (k := 4) zq9_258 rfl
theorem zt_263 : z_ckM z_m263 z_c263 z_i263 z_h263 = true := z_ckq_at (k := 5) zq9_258 rfl
theorem zt_264 : z_ckM z_m264 z_c264 z_i264 z_h264 = true := z_ckq_at (k := 6) zq9_258 rfl
theorem zq9_265 : z_ckq [(z_m265, z_c265, z_i265, z_h265), (z_m266, z_c266, z_i266, z_h266), (z_m267, z_c267, z_i267, z_h267), (z_m268, z_c268, z_i268, z_h268), (z_m269, z_c269, z_i269, z_h269), (z_m270, z_c270, z_i270, z_h270), (z_m271, z_c271, z_i271, z_h271), (z_m272, z_c272, z_i272, z_h272)] = true := by decide +kernel
theorem zt_265 : z_ckM z_m265 z_c265 z_i265 z_h265 = true := z_ckq_at (k := 0) zq9_265 rfl
theorem zt_266 : z_ckM z_m266 z_c266 z_i266 z_h266 = true := z_ckq_at (k := 1) zq9_265 rfl
theorem zt_267 : z_ckM z_m267 z_c267 z_i267 z_h267 = true := z_ckq_at (k := 2) zq9_265 rfl
theorem zt_268 : z_ckM z_m268 z_c268 z_i268 z_h268 = true := z_ckq_at (k := 3) zq9_265 rfl
theorem zt_269 : z_ckM z_m269 z_c269 z_i269 z_h269 = true := z_ckq_at (k := 4) zq9_265 rfl
theorem zt_270 : z_ckM z_m270 z_c270 z_i270 z_h270 = true := z_ckq_at (k := 5) zq9_265 rfl
theorem zt_271 : z_ckM z_m271 z_c271 z_i271 z_h271 = true := z_ckq_at (k := 6) zq9_265 rfl
theorem zt_272 : z_ckM z_m272 z_c272 z_i272 z_h272 = true := z_ckq_at (k := 7) zq9_265 rfl
theorem zq9_273 : z_ckq [(z_m273, z_c273, z_i273, z_h273), (z_m274, z_c274, z_i274, z_h274), (z_m275, z_c275, z_i275, z_h275), (z_m276, z_c276, z_i276, z_h276), (z_m277, z_c277, z_i277, z_h277), (z_m278, z_c278, z_i278, z_h278), (z_m279, z_c279, z_i279, z_h279), (z_m280, z_c280, z_i280, z_h280)] = true := by decide +kernel
theorem zt_273 : z_ckM z_m273 z_c273 z_i273 z_h273 = true := z_ckq_at (k := 0) zq9_273 rfl
theorem zt_274 : z_ckM z_m274 z_c274 z_i274 z_h274 = true := z_ckq_at (k := 1) zq9_273 rfl
theorem zt_275 : z_ckM z_m275 z_c275 z_i275 z_h275 = true := z_ckq_at (k := 2) zq9_273 rfl
theorem zt_276 : z_ckM z_m276 z_c276 z_i276 z_h276 = true := z_ckq_at (k := 3) zq9_273 rfl
theorem zt_277 : z_ckM z_m277 z_c277 z_i277 z_h277 = true := z_ckq_at (k := 4) zq9_273 rfl
theorem zt_278 : z_ckM z_m278 z_c278 z_i278 z_h278 = true := z_ckq_at (k := 5) zq9_273 rfl
theorem zt_279 : z_ckM z_m279 z_c279 z_i279 z_h279 = true := z_ckq_at (k := 6) zq9_273 rfl
theorem zt_280 : z_ckM z_m280 z_c280 z_i280 z_h280 = true := z_ckq_at (k := 7) zq9_273 rfl
theorem zq9_281 : z_ckq [(z_m281, z_c281, z_i281, z_h281), (z_m282, z_c282, z_i282, z_h282), (z_m283, z_c283, z_i283, z_h283), (z_m284, z_c284, z_i284, z_h284), (z_m285, z_c285, z_i285, z_h285), (z_m286, z_c286, z_i286, z_h286), (z_m287, z_c287, z_i287, z_h287), (z_m288, z_c288, z_i288, z_h288)] = true := by decide +kernel
theorem zt_281 : z_ckM z_m281 z_c281 z_i281 z_h281 = true := z_ckq_at (k := 0) zq9_281 rfl
theorem zt_282 : z_ckM z_m282 z_c282 z_i282 z_h282 = true := z_ckq_at (k := 1) zq9_281 rfl
theorem zt_283 : z_ckM z_m283 z_c283 z_i283 z_h283 = true := z_ckq_at (k := 2) zq9_281 rfl
theorem zt_284 : z_ckM z_m284 z_c284 z_i284 z_h284 = true := z_ckq_at (k := 3) zq9_281 rfl
theorem zt_285 : z_ckM z_m285 z_c285 z_i285 z_h285 = true := z_ckq_at (k := 4) zq9_281 rfl
theorem zt_286 : z_ckM z_m286 z_c286 z_i286 z_h286 = true := z_ckq_at (k := 5) zq9_281 rfl
theorem zt_287 : z_ckM z_m287 z_c287 z_i287 z_h287 = true := z_ckq_at (k := 6) zq9_281 rfl
theorem zt_288 : z_ckM z_m288 z_c288 z_i288 z_h288 = true := z_ckq_at (k := 7) zq9_281 rfl
theorem zq9_289 : z_ckq [(z_m289, z_c289, z_i289, z_h289), (z_m290, z_c290, z_i290, z_h290), (z_m291, z_c291, z_i291, z_h291), (z_m292, z_c292, z_i292, z_h292), (z_m293, z_c293, z_i293, z_h293), (z_m294, z_c294, z_i294, z_h294), (z_m295, z_c295, z_i295, z_h295), (z_m296, z_c296, z_i296, z_h296)] = true := by decide +kernel
theorem zt_289 : z_ckM z_m289 z_c289 z_i289 z_h289 = true := z_ckq_at (k := 0) zq9_289 rfl
theorem zt_290 : z_ckM z_m290 z_c290 z_i290 z_h290 = true := z_ckq_at (k := 1) zq9_289 rfl
theorem zt_291 : z_ckM z_m291 z_c291 z_i291 z_h291 = true := z_ckq_at (k := 2) zq9_289 rfl
theorem zt_292 : z_ckM z_m292 z_c292 z_i292 z_h292 = true := z_ckq_at (k := 3) zq9_289 rfl
theorem zt_293 : z_ckM z_m293 z_c293 z_i293 z_h293 = true := z_ckq_at (k := 4) zq9_289 rfl
theorem zt_294 : z_ckM z_m294 z_c294 z_i294 z_h294 = true := z_ckq_at (k := 5) zq9_289 rfl
theorem zt_295 : z_ckM z_m295 z_c295 z_i295 z_h295 = true := z_ckq_at (k := 6) zq9_289 rfl
theorem zt_296 : z_ckM z_m296 z_c296 z_i296 z_h296 = true := z_ckq_at (k := 7) zq9_289 rfl
theorem zq9_297 : z_ckq [(z_m297, z_c297, z_i297, z_h297), (z_m298, z_c298, z_i298, z_h298), (z_m299, z_c299, z_i299, z_h299), (z_m300, z_c300, z_i300, z_h300)] = true := by decide +kernel
theorem zt_297 : z_ckM z_m297 z_c297 z_i297 z_h297 = true := z_ckq_at (k := 0) zq9_297 rfl
theorem zt_298 : z_ckM z_m298 z_c298 z_i298 z_h298 = true := z_ckq_at (k := 1) zq9_297 rfl
theorem zt_299 : z_ckM z_m299 z_c299 z_i299 z_h299 = true := z_ckq_at (k := 2) zq9_297 rfl
theorem zt_300 : z_ckM z_m300 z_c300 z_i300 z_h300 = true := z_ckq_at (k := 3) zq9_297 rfl
theorem zt_g6 : z_ck4 z_ms_6 z_cs_6 z_is_6 z_hs_6 := ⟨zt_258, zt_259, zt_260, zt_261, zt_262, zt_263, zt_264, zt_265, zt_266, zt_267, zt_268, zt_269, zt_270, zt_271, zt_272, zt_273, zt_274, zt_275, zt_276, zt_277, zt_278, zt_279, zt_280, zt_281, zt_282, zt_283, zt_284, zt_285, zt_286, zt_287, zt_288, zt_289, zt_290, zt_291, zt_292, zt_293, zt_294, zt_295, zt_296, zt_297, zt_298, zt_299, zt_300, trivial⟩
