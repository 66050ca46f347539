/-! the tables are right: the next methods -/
theorem zq9_172 : z_ckq [(z_m172, z_c172, z_i172, z_h172), (z_m173, z_c173, z_i173, z_h173), (z_m174, z_c174, z_i174, z_h174), (z_m175, z_c175, z_i175, z_h175), (z_m176, z_c176, z_i176, z_h176), (z_m177, z_c177, z_i177, z_h177), (z_m178, z_c178, z_i178, z_h178), (z_m179, z_c179, z_i179, z_h179)] = true := by decide +kernel
theorem zt_172 : z_ckM z_m172 z_c172 z_i172 z_h172 = true := z_ckq_at (k := 0) zq9_172 rfl
theorem zt_173 : z_ckM z_m173 z_c173 z_i173 z_h173 = true := z_ckq_at (k := 1) zq9_172 rfl
theorem zt_174 : z_ckM z_m174 z_c174 z_i174 z_h174 = true := z_ckq_at (k := 2) zq9_172 rfl
theorem zt_175 : z_ckM z_m175 z_c175 z_i175 z_h175 = true := z_ckq_at (k := 3) zq9_172 rfl
theorem zt_176 : z_ckM z_m176 z_c176 z_i176 z_h176 = true := z_ckq_at (k := 4) zq9_172 rfl
theorem zt_177 : z_ckM z_m177 z_c177 z_i177 z_h177 = true := z_ckq_at (k := 5) zq9_172 rfl
theorem zt_178 : z_ckM z_m178 z_c178 z_i178 z_h178 = true := z_ckq_at (k := 6) zq9_172 rfl
theorem zt_179 : z_ckM z_m179 z_c179 z_i179 z_h179 = true := z_ckq_at (k := 7) zq9_172 rfl
theorem zq9_180 : z_ckq [(z_m180, z_c180, z_i180, z_h180), (z_m181, z_c181, z_i181, z_h181), (z_m182, z_c182, z_i182, z_h182), (z_m183, z_c183, z_i183, z_h183), (z_m184, z_c184, z_i184, z_h184), (z_m185, z_c185, z_i185, z_h185), (z_m186, z_c186, z_i186, z_h186), (z_m187, z_c187, z_i187, z_h187)] = true := by decide +kernel
theorem zt_180 : z_ckM z_m180 z_c180 z_i180 z_h180 = true := z_ckq_at (k := 0) zq9_180 rfl
theorem zt_181 : z_ckM z_m181 z_c181 z_i181 z_h181 = true := z_ckq_at (k := 1) zq9_180 rfl
theorem zt_182 : z_ckM z_m182 z_c182 z_i182 z_h182 = true := z_ckq_at (k := 2) zq9_180 rfl
theorem zt_183 : z_ckM z_m183 z_c183 z_i183 z_h183 = true := z_ckq_at (k := 3) zq9_180 rfl
theorem zt_184 : z_ckM z_m184 z_c184 z_i184 z_h184 = true := z_ckq_at (k := 4) zq9_180 rfl
theorem zt_185 : z_ckM z_m185 z_c185 z_i185 z_h185 = true := z_ckq_at (k := 5) zq9_180 rfl
theorem zt_186 : z_ckM z_m186 z_c186 z_i186 z_h186 = true := z_ckq_at (k := 6) zq9_180 rfl
theorem zt_187 : z_ckM z_m187 z_c187 z_i187 z_h187 = true := z_ckq_at (k := 7) zq9_180 rfl
theorem zq9_188 : z_ckq [(z_m188, z_c188, z_i188, z_h188), (z_m189, z_c189, z_i189, z_h189), (z_m190, z_c190, z_i190, z_h190), (z_m191, z_c191, z_i191, z_h191), (z_m192, z_c192, z_i192, z_h192), (z_m193, z_c193, z_i193, z_h193), (z_m194, z_c194, z_i194, z_h194), (z_m195, z_c195, z_i195, z_h195)] = true := by decide +kernel
theorem zt_188 : z_ckM z_m188 z_c188 z_i188 z_h188 = true := z_ckq_at (k := 0) zq9_188 rfl
theorem zt_189 : z_ckM z_m189 z_c189 z_i189 z_h189 = true := z_ckq_at (k := 1) zq9_188 rfl
theorem zt_190 : z_ckM z_m190 z_c190 z_i190 z_h190 = true := z_ckq_at (k := 2) zq9_188 rfl
theorem zt_191 : z_ckM z_m191 z_c191 z_i191 z_h191 = true := z_ckq_at (k := 3) zq9_188 rfl
theorem zt_192 : z_ckM z_m192 z_c192 z_i192 z_h192 = true := z_ckq_at (k := 4) zq9_188 rfl
theorem zt_193 : z_ckM z_m193 z_c193 z_i193 z_h193 = true := z_ckq_at (k := 5) zq9_188 rfl
theorem zt_194 : z_ckM z_m194 z_c194 z_i194 z_h194 = true := z_ckq_at (k := 6) zq9_188 rfl
theorem zt_195 : z_ckM z_m195 z_c195 z_i195 z_h195 = true := z_ckq_at (k := 7) zq9_188 rfl
theorem zq9_196 : z_ckq [(z_m196, z_c196, z_i196, z_h196), (z_m197, z_c197, z_i197, z_h197), (z_m198, z_c198, z_i198, z_h198), (z_m199, z_c199, z_i199, z_h199), (z_m200, z_c200, z_i200, z_h200), (z_m201, z_c201, z_i201, z_h201), (z_m202, z_c202, z_i202, z_h202), (z_m203, z_c203, z_i203, z_h203)] = true := by decide +kernel
theorem zt_196 : z_ckM z_m196 z_c196 z_i196 z_h196 = true := z_ckq_at (k := 0) zq9_196 rfl
theorem zt_197 : z_ckM z_m197 z_c197 z_i197 z_h197 = true := z_ckq_at (k := 1) zq9_196 rfl
theorem zt_198 : z_ckM z_m198 z_c198 z_i198 z_h198 = true := z_ckq_at (k := 2) zq9_196 rfl
theorem zt_199 : z_ckM z_m199 z_c199 z_i199 z_h199 = true := z_ckq_at (k := 3) zq9_196 rfl
theorem zt_200 : z_ckM z_m200 z_c200 z_i200 z_h200 = true := z_ckq_at (k := 4) zq9_196 rfl
theorem zt_201 : z_ckM z_m201 z_c201 z_i201 z_h201 = true := z_ckq_at (k := 5) zq9_196 rfl
theorem zt_202 : z_ckM z_m202 z_c202 z_i202 z_h202 = true := z_ckq_at (k := 6) zq9_196 rfl
theorem zt_203 : z_ckM z_m203 z_c203 z_i203 z_h203 = true := z_ckq_at (k := 7) zq9_196 rfl
theorem zq9_204 : z_ckq [(z_m204, z_c204, z_i204, z_h204), (z_m205, z_c205, z_i205, z_h205), (z_m206, z_c206, z_i206, z_h206), (z_m207, z_c207, z_i207, z_h207), (z_m208, z_c208, z_i208, z_h208), (z_m209, z_c209, z_i209, z_h209), (z_m210, z_c210, z_i210, z_h210), (z_m211, z_c211, z_i211, z_h211)] = true := by decide +kernel
theorem zt_204 : z_ckM z_m204 z_c204 z_i204 z_h204 = true := z_ckq_at (k := 0) zq9_204 rfl
theorem zt_205 : z_ckM z_m205 z_c205 z_i205 z_h205 = true := z_ckq_at (k := 1) zq9_204 rfl
theorem zt_206 : z_ckM z_m206 z_c206 z_i206 z_h206 = true := z_ckq_at (k := 2) zq9_204 rfl
theorem zt_207 : z_ckM z_m207 z_c207 z_i207 z_h207 = true := z_ckq_at (k := 3) zq9_204 rfl
theorem zt_208 : z_ckM z_m208 z_c208 z_i208 z_h208 = true := z_ckq_at (k := 4) zq9_204 rfl
theorem zt_209 : z_ckM z_m209 z_c209 z_i209 z_h209 = true := z_ckq_at (k := 5) zq9_204 rfl
theorem zt_210 : z_ckM z_m210 z_c210 z_i210 z_h210 = true := z_ckq_at (k := 6) zq9_204 rfl
theorem zt_211 : z_ckM z_m211 z_c211 z_i211 z_h211 = true := z_ckq_at (k := 7) zq9_204 rfl
theorem zq9_212 : z_ckq [(z_m212, z_c212, z_i212, z_h212), (z_m213, z_c213, z_i213, z_h213), (z_m214, z_c214, z_i214, z_h214)] = true := by decide +kernel
theorem zt_212 : z_ckM z_m212 z_c212 z_i212 z_h212 = true := z_ckq_at (k := 0) zq9_212 rfl
theorem zt_213 : z_ckM z_m213 z_c213 z_i213 z_h213 = true := z_ckq_at (k := 1) zq9_212 rfl
theorem zt_214 : z_ckM z_m214 z_c214 z_i214 z_h214 = true := z_ckq_at (k := 2) zq9_212 rfl
theorem zt_g4 : z_ck4 z_ms_4 z_cs_4 z_is_4 z_hs_4 := ⟨zt_172, zt_173, zt_174, zt_175, zt_176, zt_177, zt_178, zt_179, zt_180, zt_181, zt_182, zt_183, zt_184, zt_185, zt_186, zt_187, zt_188, zt_189, zt_190, zt_191, zt_192, zt_193, zt_194, zt_195, zt_196, zt_197, zt_198, zt_199, zt_200, zt_201, zt_202, zt_203, zt_204, zt_205, zt_206, zt_207, zt_208, zt_209, zt_210, zt_211, zt_212, zt_213, zt_214, trivial⟩
