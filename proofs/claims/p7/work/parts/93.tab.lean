/-! the tables are right: the next methods -/
theorem zq9_129 : z_ckq [(z_m129, z_c129, z_i129, z_h129), (z_m130, z_c130, z_i130, z_h130), (z_m131, z_c131, z_i131, z_h131), (z_m132, z_c132, z_i132, z_h132), (z_m133, z_c133, z_i133, z_h133), (z_m134, z_c134, z_i134, z_h134), (z_m135, z_c135, z_i135, z_h135), (z_m136, z_c136, z_i136, z_h136)] = true := by decide +kernel
theorem zt_129 : z_ckM z_m129 z_c129 z_i129 z_h129 = true := z_ckq_at (k := 0) zq9_129 rfl
theorem zt_130 : z_ckM z_m130 z_c130 z_i130 z_h130 = true := z_ckq_at (k := 1) zq9_129 rfl
theorem zt_131 : z_ckM z_m131 z_c131 z_i131 z_h131 = true := z_ckq_at (k := 2) zq9_129 rfl
theorem zt_132 : z_ckM z_m132 z_c132 z_i132 z_h132 = true := z_ckq_at (k := 3) zq9_129 rfl
theorem zt_133 : z_ckM z_m133 z_c133 z_i133 z_h133 = true := z_ckq_at (k := 4) zq9_129 rfl
theorem zt_134 : z_ckM z_m134 z_c134 z_i134 z_h134 = true := z_ckq_at (k := 5) zq9_129 rfl
theorem zt_135 : z_ckM z_m135 z_c135 z_i135 z_h135 = true := z_ckq_at (k := 6) zq9_129 rfl
theorem zt_136 : z_ckM z_m136 z_c136 z_i136 z_h136 = true := z_ckq_at (k := 7) zq9_129 rfl
theorem zq9_137 : z_ckq [(z_m137, z_c137, z_i137, z_h137), (z_m138, z_c138, z_i138, z_h138), (z_m139, z_c139, z_i139, z_h139), (z_m140, z_c140, z_i140, z_h140), (z_m141, z_c141, z_i141, z_h141), (z_m142, z_c142, z_i142, z_h142), (z_m143, z_c143, z_i143, z_h143), (z_m144, z_c144, z_i144, z_h144)] = true := by decide +kernel
theorem zt_137 : z_ckM z_m137 z_c137 z_i137 z_h137 = true := z_ckq_at (k := 0) zq9_137 rfl
theorem zt_138 : z_ckM z_m138 z_c138 z_i138 z_h138 = true := z_ckq_at (k := 1) zq9_137 rfl
theorem zt_139 : z_ckM z_m139 z_c139 z_i139 z_h139 = true := z_ckq_at (k := 2) zq9_137 rfl
theorem zt_140 : z_ckM z_m140 z_c140 z_i140 z_h140 = true := z_ckq_at (k := 3) zq9_137 rfl
theorem zt_141 : z_ckM z_m141 z_c141 z_i141 z_h141 = true := z_ckq_at (k := 4) zq9_137 rfl
theorem zt_142 : z_ckM z_m142 z_c142 z_i142 z_h142 = true := z_ckq_at (k := 5) zq9_137 rfl
theorem zt_143 : z_ckM z_m143 z_c143 z_i143 z_h143 = true := z_ckq_at (k := 6) zq9_137 rfl
theorem zt_144 : z_ckM z_m144 z_c144 z_i144 z_h144 = true := z_ckq_at (k := 7) zq9_137 rfl
theorem zq9_145 : z_ckq [(z_m145, z_c145, z_i145, z_h145), (z_m146, z_c146, z_i146, z_h146), (z_m147, z_c147, z_i147, z_h147), (z_m148, z_c148, z_i148, z_h148), (z_m149, z_c149, z_i149, z_h149), (z_m150, z_c150, z_i150, z_h150), (z_m151, z_c151, z_i151, z_h151), (z_m152, z_c152, z_i152, z_h152)] = true := by decide +kernel
theorem zt_145 : z_ckM z_m145 z_c145 z_i145 z_h145 = true := z_ckq_at (k := 0) zq9_145 rfl
theorem zt_146 : z_ckM z_m146 z_c146 z_i146 z_h146 = true := z_ckq_at (k := 1) zq9_145 rfl
theorem zt_147 : z_ckM z_m147 z_c147 z_i147 z_h147 = true := z_ckq_at (k := 2) zq9_145 rfl
theorem zt_148 : z_ckM z_m148 z_c148 z_i148 z_h148 = true := z_ckq_at (k := 3) zq9_145 rfl
theorem zt_149 : z_ckM z_m149 z_c149 z_i149 z_h149 = true := z_ckq_at (k := 4) zq9_145 rfl
theorem zt_150 : z_ckM z_m150 z_c150 z_i150 z_h150 = true := z_ckq_at (k := 5) zq9_145 rfl
theorem zt_151 : z_ckM z_m151 z_c151 z_i151 z_h151 = true := z_ckq_at (k := 6) zq9_145 rfl
theorem zt_152 : z_ckM z_m152 z_c152 z_i152 z_h152 = true := z_ckq_at (k := 7) zq9_145 rfl
theorem zq9_153 : z_ckq [(z_m153, z_c153, z_i153, z_h153), (z_m154, z_c154, z_i154, z_h154), (z_m155, z_c155, z_i155, z_h155), (z_m156, z_c156, z_i156, z_h156), (z_m157, z_c157, z_i157, z_h157), (z_m158, z_c158, z_i158, z_h158), (z_m159, z_c159, z_i159, z_h159), (z_m160, z_c160, z_i160, z_h160)] = true := by decide +kernel
theorem zt_153 : z_ckM z_m153 z_c153 z_i153 z_h153 = true := z_ckq_at (k := 0) zq9_153 rfl
theorem zt_154 : z_ckM z_m154 z_c154 z_i154 z_h154 = true := z_ckq_at (k := 1) zq9_153 rfl
theorem zt_155 : z_ckM z_m155 z_c155 z_i155 z_h155 = true := z_ckq_at (k := 2) zq9_153 rfl
theorem zt_156 : z_ckM z_m156 z_c156 z_i156 z_h156 = true := z_ckq_at (k := 3) zq9_153 rfl
theorem zt_157 : z_ckM z_m157 z_c157 z_i157 z_h157 = true := z_ckq_at (k := 4) zq9_153 rfl
theorem zt_158 : z_ckM z_m158 z_c158 z_i158 z_h158 = true := z_ckq_at (k := 5) zq9_153 rfl
theorem zt_159 : z_ckM z_m159 z_c159 z_i159 z_h159 = true := z_ckq_at (k := 6) zq9_153 rfl
theorem zt_160 : z_ckM z_m160 z_c160 z_i160 z_h160 = true := z_ckq_at (k := 7) zq9_153 rfl
theorem zq9_161 : z_ckq [(z_m161, z_c161, z_i161, z_h161), (z_m162, z_c162, z_i162, z_h162), (z_m163, z_c163, z_i163, z_h163), (z_m164, z_c164, z_i164, z_h164), (z_m165, z_c165, z_i165, z_h165), (z_m166, z_c166, z_i166, z_h166), (z_m167, z_c167, z_i167, z_h167), (z_m168, z_c168, z_i168, z_h168)] = true := by decide +kernel
theorem zt_161 : z_ckM z_m161 z_c161 z_i161 z_h161 = true := z_ckq_at (k := 0) zq9_161 rfl
theorem zt_162 : z_ckM z_m162 z_c162 z_i162 z_h162 = true := z_ckq_at (k := 1) zq9_161 rfl
theorem zt_163 : z_ckM z_m163 z_c163 z_i163 z_h163 = true := z_ckq_at (k := 2) zq9_161 rfl
theorem zt_164 : z_ckM z_m164 z_c164 z_i164 z_h164 = true := z_ckq_at (k := 3) zq9_161 rfl
theorem zt_165 : z_ckM z_m165 z_c165 z_i165 z_h165 = true := z_ckq_at (k := 4) zq9_161 rfl
theorem zt_166 : z_ckM z_m166 z_c166 z_i166 z_h166 = true := z_ckq_at (k := 5) zq9_161 rfl
theorem zt_167 : z_ckM z_m167 z_c167 z_i167 z_h167 = true := z_ckq_at (k := 6) zq9_161 rfl
theorem zt_168 : z_ckM z_m168 z_c168 z_i168 z_h168 = true := z_ckq_at (k := 7) zq9_161 rfl
theorem zq9_169 : z_ckq [(z_m169, z_c169, z_i169, z_h169), (z_m170, z_c170, z_i170, z_h170), (z_m171, z_c171, z_i171, z_h171)] = true := by decide +kernel
theorem zt_169 : z_ckM z_m169 z_c169 z_i169 z_h169 = true := z_ckq_at (k := 0) zq9_169 rfl
theorem zt_170 : z_ckM z_m170 z_c170 z_i170 z_h170 = true := z_ckq_at (k := 1) zq9_169 rfl
theorem zt_171 : z_ckM z_m171 z_c171 z_i171 z_h171 = true := z_ckq_at (k := 2) zq9_169 rfl
theorem zt_g3 : z_ck4 z_ms_3 z_cs_3 z_is_3 z_hs_3 := ⟨zt_129, zt_130, zt_131, zt_132, zt_133, zt_134, zt_135, zt_136, zt_137, zt_138, zt_139, zt_140, zt_141, zt_142, zt_143, zt_144, zt_145, zt_146, zt_147, zt_148, zt_149, zt_150, zt_151, zt_152, zt_153, zt_154, zt_155, zt_156, zt_157, zt_158, zt_159, zt_160, zt_161, zt_162, zt_163, zt_164, zt_165, zt_166, zt_167, zt_168, zt_169, zt_170, zt_171, trivial⟩
