/-! the tables are right: the next methods -/
theorem zq9_215 : z_ckq [(z_m215, z_c215, z_i215, z_h215), (z_m216, z_c216, z_i216, z_h216), (z_m217, z_c217, z_i217, z_h217), (z_m218, z_c218, z_i218, z_h218), (z_m219, z_c219, z_i219, z_h219), (z_m220, z_c220, z_i220, z_h220), (z_m221, z_c221, z_i221, z_h221), (z_m222, z_c222, z_i222, z_h222)] = true := by decide +kernel
theorem zt_215 : z_ckM z_m215 z_c215 z_i215 z_h215 = true := z_ckq_at (k := 0) zq9_215 rfl
theorem zt_216 : z_ckM z_m216 z_c216 z_i216 z_h216 = true := z_ckq_at (k := 1) zq9_215 rfl
theorem zt_217 : z_ckM z_m217 z_c217 z_i217 z_h217 = true := z_ckq_at (k := 2) zq9_215 rfl
theorem zt_218 : z_ckM z_m218 z_c218 z_i218 z_h218 = true := z_ckq_at (k := 3) zq9_215 rfl
theorem zt_219 : z_ckM z_m219 z_c219 z_i219 z_h219 = true := z_ckq_at (k := 4) zq9_215 rfl
theorem zt_220 : z_ckM z_m220 z_c220 z_i220 z_h220 = true := z_ckq_at (k := 5) zq9_215 rfl
theorem zt_221 : z_ckM z_m221 z_c221 z_i221 z_h221 = true := z_ckq_at (k := 6) zq9_215 rfl
theorem zt_222 : z_ckM z_m222 z_c222 z_i222 z_h222 = true := z_ckq_at (k := 7) zq9_215 rfl
theorem zq9_223 : z_ckq [(z_m223, z_c223, z_i223, z_h223), (z_m224, z_c224, z_i224, z_h224), (z_m225, z_c225, z_i225, z_h225), (z_m226, z_c226, z_i226, z_h226), (z_m227, z_c227, z_i227, z_h227), (z_m228, z_c228, z_i228, z_h228), (z_m229, z_c229, z_i229, z_h229), (z_m230, z_c230, z_i230, z_h230)] = true := by decide +kernel
theorem zt_223 : z_ckM z_m223 z_c223 z_i223 z_h223 = true := z_ckq_at (k := 0) zq9_223 rfl
theorem zt_224 : z_ckM z_m224 z_c224 z_i224 z_h224 = true := z_ckq_at (k := 1) zq9_223 rfl
theorem zt_225 : z_ckM z_m225 z_c225 z_i225 z_h225 = true := z_ckq_at (k := 2) zq9_223 rfl
theorem zt_226 : z_ckM z_m226 z_c226 z_i226 z_h226 = true := z_ckq_at (k := 3) zq9_223 rfl
theorem zt_227 : z_ckM z_m227 z_c227 z_i227 z_h227 = true := z_ckq_at (k := 4) zq9_223 rfl
theorem zt_228 : z_ckM z_m228 z_c228 z_i228 z_h228 = true := z_ckq_at (k := 5) zq9_223 rfl
theorem zt_229 : z_ckM z_m229 z_c229 z_i229 z_h229 = true := z_ckq_at (k := 6) zq9_223 rfl
theorem zt_230 : z_ckM z_m230 z_c230 z_i230 z_h230 = true := z_ckq_at (k := 7) zq9_223 rfl
theorem zq9_231 : z_ckq [(z_m231, z_c231, z_i231, z_h231), (z_m232, z_c232, z_i232, z_h232), (z_m233, z_c233, z_i233, z_h233), (z_m234, z_c234, z_i234, z_h234), (z_m235, z_c235, z_i235, z_h235), (z_m236, z_c236, z_i236, z_h236)] = true := by decide +kernel
theorem zt_231 : z_ckM z_m231 z_c231 z_i231 z_h231 = true := z_ckq_at (k := 0) zq9_231 rfl
theorem zt_232 : z_ckM z_m232 z_c232 z_i232 z_h232 = true := z_ckq_at (k := 1) zq9_231 rfl
theorem zt_233 : z_ckM z_m233 z_c233 z_i233 z_h233 = true := z_ckq_at (k := 2) zq9_231 rfl
theorem zt_234 : z_ckM z_m234 z_c234 z_i234 z_h234 = true := z_ckq_at (k := 3) zq9_231 rfl
theorem zt_235 : z_ckM z_m235 z_c235 z_i235 z_h235 = true := z_ckq_at (k := 4) zq9_231 rfl
theorem zt_236 : z_ckM z_m236 z_c236 z_i236 z_h236 = true := z_ckq_at (k := 5) zq9_231 rfl
theorem zq9_237 : z_ckq [(z_m237, z_c237, z_i237, z_h237), (z_m238, z_c238, z_i238, z_h238), (z_m239, z_c239, z_i239, z_h239), (z_m240, z_c240, z_i240, z_h240), (z_m241, z_c241, z_i241, z_h241), (z_m242, z_c242, z_i242, z_h242), (z_m243, z_c243, z_i243, z_h243), (z_m244, z_c244, z_i244, z_h244)] = true := by decide +kernel
theorem zt_237 : z_ckM z_m237 z_c237 z_i237 z_h237 = true := z_ckq_at (k := 0) zq9_237 rfl
theorem zt_238 : z_ckM z_m238 z_c238 z_i238 z_h238 = true := z_ckq_at (k := 1) zq9_237 rfl
theorem zt_239 : z_ckM z_m239 z_c239 z_i239 z_h239 = true := z_ckq_at (k := 2) zq9_237 rfl
theorem zt_240 : z_ckM z_m240 z_c240 z_i240 z_h240 = true := z_ckq_at (k := 3) zq9_237 rfl
theorem zt_241 : z_ckM z_m241 z_c241 z_i241 z_h241 = true := z_ckq_at (k := 4) zq9_237 rfl
theorem zt_242 : z_ckM z_m242 z_c242 z_i242 z_h242 = true := z_ckq_at (k := 5) zq9_237 rfl
theorem zt_243 : z_ckM z_m243 z_c243 z_i243 z_h243 = true := z_ckq_at (k := 6) zq9_237 rfl
theorem zt_244 : z_ckM z_m244 z_c244 z_i244 z_h244 = true := z_ckq_at (k := 7) zq9_237 rfl
theorem zq9_245 : z_ckq [(z_m245, z_c245, z_i245, z_h245), (z_m246, z_c246, z_i246, z_h246), (z_m247, z_c247, z_i247, z_h247), (z_m248, z_c248, z_i248, z_h248), (z_m249, z_c249, z_i249, z_h249), (z_m250, z_c250, z_i250, z_h250), (z_m251, z_c251, z_i251, z_h251), (z_m252, z_c252, z_i252, z_h252)] = true := by decide +kernel
theorem zt_245 : z_ckM z_m245 z_c245 z_i245 z_h245 = true := z_ckq_at (k := 0) zq9_245 rfl
theorem zt_246 : z_ckM z_m246 z_c246 z_i246 z_h246 = true := z_ckq_at (k := 1) zq9_245 rfl
theorem zt_247 : z_ckM z_m247 z_c247 z_i247 z_h247 = true := z_ckq_at (k := 2) zq9_245 rfl
theorem zt_248 : z_ckM z_m248 z_c248 z_i248 z_h248 = true := z_ckq_at (k := 3) zq9_245 rfl
theorem zt_249 : z_ckM z_m249 z_c249 z_i249 z_h249 = true := z_ckq_at (k := 4) zq9_245 rfl
theorem zt_250 : z_ckM z_m250 z_c250 z_i250 z_h250 = true := z_ckq_at (k := 5) zq9_245 rfl
theorem zt_251 : z_ckM z_m251 z_c251 z_i251 z_h251 = true := z_ckq_at (k := 6) zq9_245 rfl
theorem zt_252 : z_ckM z_m252 z_c252 z_i252 z_h252 = true := z_ckq_at (k := 7) zq9_245 rfl
theorem zq9_253 : z_ckq [(z_m253, z_c253, z_i253, z_h253), (z_m254, z_c254, z_i254, z_h254), (z_m255, z_c255, z_i255, z_h255), (z_m256, z_c256, z_i256, z_h256), (z_m257, z_c257, z_i257, z_h257)] = true := by decide +kernel
theorem zt_253 : z_ckM z_m253 z_c253 z_i253 z_h253 = true := z_ckq_at (k := 0) zq9_253 rfl
theorem zt_254 : z_ckM z_m254 z_c254 z_i254 z_h254 = true := z_ckq_at (k := 1) zq9_253 rfl
theorem zt_255 : z_ckM z_m255 z_c255 z_i255 z_h255 = true := z_ckq_at (k := 2) zq9_253 rfl
theorem zt_256 : z_ckM z_m256 z_c256 z_i256 z_h256 = true := z_ckq_at (k := 3) zq9_253 rfl
theorem zt_257 : z_ckM z_m257 z_c257 z_i257 z_h257 = true := z_ckq_at (k := 4) zq9_253 rfl
theorem zt_g5 : z_ck4 z_ms_5 z_cs_5 z_is_5 z_hs_5 := ⟨zt_215, zt_216, zt_217, zt_218, zt_219, zt_220, zt_221, zt_222, zt_223, zt_224, zt_225, zt_226, zt_227, zt_228, zt_229, zt_230, zt_231, zt_232, zt_233, zt_234, zt_235, zt_236, zt_237, zt_238, zt_239, zt_240, zt_241, zt_242, zt_243, zt_244, zt_245, zt_246, zt_247, zt_248, zt_249, zt_250, zt_251, zt_252, zt_253, zt_254, zt_255, zt_256, zt_257, trivial⟩
