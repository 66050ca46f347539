section
/-! the kernel runs the checker -/
theorem zK159 : zck z_tt zCtl zCand 159 zC159 3 4000 = true := zckF_ok (by decide +kernel)
theorem zK160 : zck z_tt zCtl zCand 160 zC160 0 4000 = true := zckF_ok (by decide +kernel)
theorem zK161 : zck z_tt zCtl zCand 161 zC161 3 4000 = true := zckF_ok (by decide +kernel)
theorem zK162 : zck z_tt zCtl zCand 162 zC162 0 4000 = true := zckF_ok (by decide +kernel)
theorem zK163 : zck z_tt zCtl zCand 163 zC163 0 4000 = true := zckF_ok (by decide +kernel)
theorem zK164 : zck z_tt zCtl zCand 164 zC164 3 4000 = true := zckF_ok (by decide +kernel)
theorem zK165 : zck z_tt zCtl zCand 165 zC165 3 4000 = true := zckF_ok (by decide +kernel)
theorem zK166 : zck z_tt zCtl zCand 166 zC166 3 4000 = true := zckF_ok (by decide +kernel)
theorem zK167 : zck z_tt zCtl zCand 167 zC167 3 4000 = true := zckF_ok (by decide +kernel)
theorem zK168 : zck z_tt zCtl zCand 168 zC168 3 4000 = true := zckF_ok (by decide +kernel)
theorem zK169 : zck z_tt zCtl zCand 169 zC169 0 4000 = true := zckF_ok (by decide +kernel)
theorem zK170 : zck z_tt zCtl zCand 170 zC170 0 4000 = true := zckF_ok (by decide +kernel)
theorem zK171 : zck z_tt zCtl zCand 171 zC171 0 4000 = true := zckF_ok (by decide +kernel)
theorem zK172 : zck z_tt zCtl zCand 172 zC172 0 4000 = true := zckF_ok (by decide +kernel)
theorem zK173 : zck z_tt zCtl zCand 173 zC173 0 4000 = true := zckF_ok (by decide +kernel)
theorem zK174 : zck z_tt zCtl zCand 174 zC174 0 4000 = true := zckF_ok (by decide +kernel)
theorem zK175 : zck z_tt zCtl zCand 175 zC175 0 4000 = true := zckF_ok (by decide +kernel)
theorem zK176 : zck z_tt zCtl zCand 176 zC176 1 4000 = true := zckF_ok (by decide +kernel)
theorem zK177 : zck z_tt zCtl zCand 177 zC177 3 4000 = true := zckF_ok (by decide +kernel)
theorem zK178 : zck z_tt zCtl zCand 178 zC178 0 4000 = true := zckF_ok (by decide +kernel)
theorem zK179 : zck z_tt zCtl zCand 179 zC179 0 4000 = true := zckF_ok (by decide +kernel)
theorem zK180 : zck z_tt zCtl zCand 180 zC180 0 4000 = true := zckF_ok (by decide +kernel)
theorem zK181 : zck z_tt zCtl zCand 181 zC181 3 4000 = true := zckF_ok (by decide +kernel)
theorem zK182 : zck z_tt zCtl zCand 182 zC182 3 4000 = true := zckF_ok (by decide +kernel)
theorem zK183 : zck z_tt zCtl zCand 183 zC183 3 4000 = true := zckF_ok (by decide +kernel)
theorem zK184 : zck z_tt zCtl zCand 184 zC184 3 4000 = true := zckF_ok (by decide +kernel)
theorem zK185 : zck z_tt zCtl zCand 185 zC185 0 4000 = true := zckF_ok (by decide +kernel)
theorem zK186 : zck z_tt zCtl zCand 186 zC186 0 4000 = true := zckF_ok (by decide +kernel)
theorem zK187 : zck z_tt zCtl zCand 187 zC187 0 4000 = true := zckF_ok (by decide +kernel)
theorem zK188 : zck z_tt zCtl zCand 188 zC188 0 4000 = true := zckF_ok (by decide +kernel)
theorem zK189 : zck z_tt zCtl zCand 189 zC189 0 4000 = true := zckF_ok (by decide +kernel)
theorem zK190 : zck z_tt zCtl zCand 190 zC190 3 4000 = true := zckF_ok (by decide +kernel)
theorem zK191 : zck z_tt zCtl zCand 191 zC191 3 4000 = true := zckF_ok (by decide +kernel)
theorem zK192 : zck z_tt zCtl zCand 192 zC192 0 4000 = true := zckF_ok (by decide +kernel)
theorem zK193 : zck z_tt zCtl zCand 193 zC193 0 4000 = true := zckF_ok (by decide +kernel)
theorem zK194 : zck z_tt zCtl zCand 194 zC194 0 4000 = true := zckF_ok (by decide +kernel)
theorem zK195 : zck z_tt zCtl zCand 195 zC195 0 4000 = true := zckF_ok (by decide +kernel)
theorem zK196 : zck z_tt zCtl zCand 196 zC196 3 4000 = true := zckF_ok (by decide +kernel)
theorem zK197 : zck z_tt zCtl zCand 197 zC197 3 4000 = true := zckF_ok (by decide +kernel)
theorem zK198 : zck z_tt zCtl zCand 198 zC198 3 4000 = true := zckF_ok (by decide +kernel)
theorem zK199 : zck z_tt zCtl zCand 199 zC199 0 4000 = true := zckF_ok (by decide +kernel)
theorem zK200 : zck z_tt zCtl zCand 200 zC200 5 4000 = true := zckF_ok (by decide +kernel)
theorem zK201 : zck z_tt zCtl zCand 201 zC201 0 4000 = true := zckF_ok (by decide +kernel)
theorem zK202 : zck z_tt zCtl zCand 202 zC202 3 4000 = true := zckF_ok (by decide +kernel)
theorem zK203 : zck z_tt zCtl zCand 203 zC203 3 4000 = true := zckF_ok (by decide +kernel)
theorem zK204 : zck z_tt zCtl zCand 204 zC204 3 4000 = true := zckF_ok (by decide +kernel)
theorem zK205 : zck z_tt zCtl zCand 205 zC205 3 4000 = true := zckF_ok (by decide +kernel)
end
section
/-! the kernel runs the checker -/
theorem zK206 : zck z_tt zCtl zCand 206 zC206 5 4000 = true := zckF_ok (by decide +kernel)
theorem zK207 : zck z_tt zCtl zCand 207 zC207 0 4000 = true := zckF_ok (by decide +kernel)
theorem zK208 : zck z_tt zCtl zCand 208 zC208 5 4000 = true := zckF_ok (by decide +kernel)
theorem zK209 : zck z_tt zCtl zCand 209 zC209 5 4000 = true := zckF_ok (by decide +kernel)
end
section
/-! the kernel runs the checker -/
theorem zK210 : zck z_tt zCtl zCand 210 zC210 0 4000 = true := zckF_ok (by decide +kernel)
theorem zK211 : zck z_tt zCtl zCand 211 zC211 0 4000 = true := zckF_ok (by decide +kernel)
theorem zK212 : zck z_tt zCtl zCand 212 zC212 3 4000 = true := zckF_ok (by decide +kernel)
theorem zK213 : zck z_tt zCtl zCand 213 zC213 3 4000 = true := zckF_ok (by decide +kernel)
theorem zK214 : zck z_tt zCtl zCand 214 zC214 5 4000 = true := zckF_ok (by decide +kernel)
theorem zK215 : zck z_tt zCtl zCand 215 zC215 3 4000 = true := zckF_ok (by decide +kernel)
theorem zK216 : zck z_tt zCtl zCand 216 zC216 3 4000 = true := zckF_ok (by decide +kernel)
theorem zK217 : zck z_tt zCtl zCand 217 zC217 3 4000 = true := zckF_ok (by decide +kernel)
theorem zK218 : zck z_tt zCtl zCand 218 zC218 3 4000 = true := zckF_ok (by decide +kernel)
theorem zK219 : zck z_tt zCtl zCand 219 zC219 3 4000 = true := zckF_ok (by decide +kernel)
theorem zK220 : zck z_tt zCtl zCand 220 zC220 3 4000 = true := zckF_ok (by decide +kernel)
theorem zK221 : zck z_tt zCtl zCand 221 zC221 3 4000 = true := zckF_ok (by decide +kernel)
theorem zK222 : zck z_tt zCtl zCand 222 zC222 0 4000 = true := zckF_ok (by decide +kernel)
theorem zK223 : zck z_tt zCtl zCand 223 zC223 0 4000 = true := zckF_ok (by decide +kernel)
theorem zK224 : zck z_tt zCtl zCand 224 zC224 1 4000 = true := zckF_ok (by decide +kernel)
theorem zK225 : zck z_tt zCtl zCand 225 zC225 0 4000 = true := zckF_ok (by decide +kernel)
theorem zK226 : zck z_tt zCtl zCand 226 zC226 3 4000 = true := zckF_ok (by decide +kernel)
theorem zK227 : zck z_tt zCtl zCand 227 zC227 3 4000 = true := zckF_ok (by decide +kernel)
theorem zK228 : zck z_tt zCtl zCand 228 zC228 3 4000 = true := zckF_ok (by decide +kernel)
theorem zK229 : zck z_tt zCtl zCand 229 zC229 3 4000 = true := zckF_ok (by decide +kernel)
theorem zK230 : zck z_tt zCtl zCand 230 zC230 3 4000 = true := zckF_ok (by decide +kernel)
theorem zK231 : zck z_tt zCtl zCand 231 zC231 3 4000 = true := zckF_ok (by decide +kernel)
theorem zK232 : zck z_tt zCtl zCand 232 zC232 3 4000 = true := zckF_ok (by decide +kernel)
theorem zK233 : zck z_tt zCtl zCand 233 zC233 3 4000 = true := zckF_ok (by decide +kernel)
theorem zK234 : zck z_tt zCtl zCand 234 zC234 3 4000 = true := zckF_ok (by decide +kernel)
theorem zK235 : zck z_tt zCtl zCand 235 zC235 3 4000 = true := zckF_ok (by decide +kernel)
theorem zK236 : zck z_tt zCtl zCand 236 zC236 3 4000 = true := zckF_ok (by decide +kernel)
theorem zK237 : zck z_tt zCtl zCand 237 zC237 0 4000 = true := zckF_ok (by decide +kernel)
theorem zK245 : zck z_tt zCtl zCand 245 zC245 0 4000 = true := zckF_ok (by decide +kernel)
theorem zK246 : zck z_tt zCtl zCand 246 zC246 0 4000 = true := zckF_ok (by decide +kernel)
theorem zK247 : zck z_tt zCtl zCand 247 zC247 0 4000 = true := zckF_ok (by decide +kernel)
theorem zK248 : zck z_tt zCtl zCand 248 zC248 0 4000 = true := zckF_ok (by decide +kernel)
theorem zK249 : zck z_tt zCtl zCand 249 zC249 0 4000 = true := zckF_ok (by decide +kernel)
theorem zK250 : zck z_tt zCtl zCand 250 zC250 3 4000 = true := zckF_ok (by decide +kernel)
theorem zK251 : zck z_tt zCtl zCand 251 zC251 1 4000 = true := zckF_ok (by decide +kernel)
theorem zK252 : zck z_tt zCtl zCand 252 zC252 3 4000 = true := zckF_ok (by decide +kernel)
theorem zK253 : zck z_tt zCtl zCand 253 zC253 3 4000 = true := zckF_ok (by decide +kernel)
theorem zK254 : zck z_tt zCtl zCand 254 zC254 3 4000 = true := zckF_ok (by decide +kernel)
theorem zK255 : zck z_tt zCtl zCand 255 zC255 3 4000 = true := zckF_ok (by decide +kernel)
theorem zK256 : zck z_tt zCtl zCand 256 zC256 3 4000 = true := zckF_ok (by decide +kernel)
theorem zK257 : zck z_tt zCtl zCand 257 zC257 3 4000 = true := zckF_ok (by decide +kernel)
theorem zK258 : zck z_tt zCtl zCand 258 zC258 0 4000 = true := zckF_ok (by decide +kernel)
end
section
/-! the kernel runs the checker -/
theorem zK259 : zck z_tt zCtl zCand 259 zC259 0 4000 = true := zckF_ok (by decide +kernel)
theorem zK260 : zck z_tt zCtl zCand 260 zC260 3 4000 = true := zckF_ok (by decide +kernel)
theorem zK261 : zck z_tt zCtl zCand 261 zC261 1 4000 = true := zckF_ok (by decide +kernel)
theorem zK262 : zck z_tt zCtl zCand 262 zC262 3 4000 = true := zckF_ok (by decide +kernel)
theorem zK263 : zck z_tt zCtl zCand 263 zC263 0 4000 = true := zckF_ok (by decide +kernel)
theorem zK264 : zck z_tt zCtl zCand 264 zC264 0 4000 = true := zckF_ok (by decide +kernel)
theorem zK265 : zck z_tt zCtl zCand 265 zC265 3 4000 = true := zckF_ok (by decide +kernel)
theorem zK266 : zck z_tt zCtl zCand 266 zC266 3 4000 = true := zckF_ok (by decide +kernel)
theorem zK267 : zck z_tt zCtl zCand 267 zC267 3 4000 = true := zckF_ok (by decide +kernel)
theorem zK268 : zck z_tt zCtl zCand 268 zC268 3 4000 = true := zckF_ok (by decide +kernel)
theorem zK269 : zck z_tt zCtl zCand 269 zC269 0 4000 = true := zckF_ok (by decide +kernel)
theorem zK270 : zck z_tt zCtl zCand 270 zC270 3 4000 = true := zckF_ok (by decide +kernel)
theorem zK271 : zck z_tt zCtl zCand 271 zC271 0 4000 = true := zckF_ok (by decide +kernel)
theorem zK272 : zck z_tt zCtl zCand 272 zC272 0 4000 = true := zckF_ok (by decide +kernel)
theorem zK273 : zck z_tt zCtl zCand 273 zC273 3 4000 = true := zckF_ok (by decide +kernel)
theorem zK274 : zck z_tt zCtl zCand 274 zC274 0 4000 = true := zckF_ok (by decide +kernel)
theorem zK276 : zck z_tt zCtl zCand 276 zC276 0 4000 = true := zckF_ok (by decide +kernel)
theorem zK277 : zck z_tt zCtl zCand 277 zC277 0 4000 = true := zckF_ok (by decide +kernel)
theorem zK278 : zck z_tt zCtl zCand 278 zC278 0 4000 = true := zckF_ok (by decide +kernel)
theorem zK279 : zck z_tt zCtl zCand 279 zC279 0 4000 = true := zckF_ok (by decide +kernel)
theorem zK280 : zck z_tt zCtl zCand 280 zC280 0 4000 = true := zckF_ok (by decide +kernel)
theorem zK281 : zck z_tt zCtl zCand 281 zC281 0 4000 = true := zckF_ok (by decide +kernel)
theorem zK282 : zck z_tt zCtl zCand 282 zC282 0 4000 = true := zckF_ok (by decide +kernel)
theorem zK283 : zck z_tt zCtl zCand 283 zC283 0 4000 = true := zckF_ok (by decide +kernel)
theorem zK284 : zck z_tt zCtl zCand 284 zC284 0 4000 = true := zckF_ok (by decide +kernel)
theorem zK285 : zck z_tt zCtl zCand 285 zC285 0 4000 = true := zckF_ok (by decide +kernel)
theorem zK286 : zck z_tt zCtl zCand 286 zC286 0 4000 = true := zckF_ok (by decide +kernel)
theorem zK287 : zck z_tt zCtl zCand 287 zC287 0 4000 = true := zckF_ok (by decide +kernel)
theorem zK288 : zck z_tt zCtl zCand 288 zC288 0 4000 = true := zckF_ok (by decide +kernel)
theorem zK289 : zck z_tt zCtl zCand 289 zC289 0 4000 = true := zckF_ok (by decide +kernel)
theorem zK290 : zck z_tt zCtl zCand 290 zC290 0 4000 = true := zckF_ok (by decide +kernel)
theorem zK291 : zck z_tt zCtl zCand 291 zC291 0 4000 = true := zckF_ok (by decide +kernel)
theorem zK292 : zck z_tt zCtl zCand 292 zC292 0 4000 = true := zckF_ok (by decide +kernel)
theorem zK293 : zck z_tt zCtl zCand 293 zC293 0 4000 = true := zckF_ok (by decide +kernel)
theorem zK294 : zck z_tt zCtl zCand 294 zC294 0 4000 = true := zckF_ok (by decide +kernel)
theorem zK295 : zck z_tt zCtl zCand 295 zC295 0 4000 = true := zckF_ok (by decide +kernel)
theorem zK296 : zck z_tt zCtl zCand 296 zC296 0 4000 = true := zckF_ok (by decide +kernel)
theorem zK297 : zck z_tt zCtl zCand 297 zC297 0 4000 = true := zckF_ok (by decide +kernel)
theorem zK298 : zck z_tt zCtl zCand 298 zC298 0 4000 = true := zckF_ok (by decide +kernel)
theorem zK299 : zck z_tt zCtl zCand 299 zC299 0 4000 = true := zckF_ok (by decide +kernel)
theorem zK300 : zck z_tt zCtl zCand 300 zC300 0 4000 = true := zckF_ok (by decide +kernel)
theorem zK301 : zck z_tt zCtl zCand 301 zC301 0 4000 = true := zckF_ok (by decide +kernel)
end
section
/-! all contracts hold; printed with wip/gen/gen_fin.py -/
noncomputable def zRow (c : Nat) : Prop := ∀ ct, zCtl[c]? = some ct → (zStable z_tt zE1 (zcM ct) ∧ ∃ N fuel, zck z_tt zCtl zCand c ct N fuel = true) ∨ ((∀ c9, c9 < c → ∀ c', zCtl[c9]? = some c' → zVd z_tt zE1 c') → zVd z_tt zE1 ct)
theorem zRow_a {c : Nat} {ct : zCt} {N : Nat} (h : zCtl[c]? = some ct) (hn : zno (zcM ct) = true) (hk : zck z_tt zCtl zCand c ct N 4000 = true) : zRow c := fun ct9 h9 => by
  rw [h] at h9
  cases h9
  exact Or.inl ⟨zE1_stable hn, N, 4000, hk⟩
theorem zRow_h {c : Nat} {ct : zCt} (h : zCtl[c]? = some ct) (hk : (∀ c9, c9 < c → ∀ c', zCtl[c9]? = some c' → zVd z_tt zE1 c') → zVd z_tt zE1 ct) : zRow c := fun ct9 h9 => by
  rw [h] at h9
  cases h9
  exact Or.inr hk
set_option maxRecDepth 100000 in
theorem zr_0 : zRow 0 := zRow_h (ct := zC0) rfl (fun H => zV_0)
theorem zr_1 : zRow 1 := zRow_h (ct := zC1) rfl (fun H => zV_1)
theorem zr_2 : zRow 2 := zRow_h (ct := zC2) rfl (fun H => zV_2)
theorem zr_3 : zRow 3 := zRow_h (ct := zC3) rfl (fun H => zV_3)
theorem zr_4 : zRow 4 := zRow_h (ct := zC4) rfl (fun H => zV_4)
theorem zr_5 : zRow 5 := zRow_h (ct := zC5) rfl (fun H => zV_5)
theorem zr_6 : zRow 6 := zRow_h (ct := zC6) rfl (fun H => zV_6)
theorem zr_7 : zRow 7 := zRow_h (ct := zC7) rfl (fun H => zV_7)
theorem zr_8 : zRow 8 := zRow_h (ct := zC8) rfl (fun H => zV_8)
theorem zr_9 : zRow 9 := zRow_h (ct := zC9) rfl (fun H => zV_9)
theorem zr_10 : zRow 10 := zRow_h (ct := zC10) rfl (fun H => zV_10)
theorem zr_11 : zRow 11 := zRow_h (ct := zC11) rfl (fun H => zV_11)
theorem zr_12 : zRow 12 := zRow_h (ct := zC12) rfl (fun H => zV_12)
theorem zr_13 : zRow 13 := zRow_h (ct := zC13) rfl (fun H => zV_13)
theorem zr_14 : zRow 14 := zRow_h (ct := zC14) rfl (fun H => zV_14)
theorem zr_15 : zRow 15 := zRow_h (ct := zC15) rfl (fun H => zV_15)
theorem zr_16 : zRow 16 := zRow_h (ct := zC16) rfl (fun H => zV_16)
theorem zr_17 : zRow 17 := zRow_h (ct := zC17) rfl (fun H => zV_17)
theorem zr_18 : zRow 18 := zRow_h (ct := zC18) rfl (fun H => zV_18)
theorem zr_19 : zRow 19 := zRow_h (ct := zC19) rfl (fun H => zV_19)
theorem zr_20 : zRow 20 := zRow_h (ct := zC20) rfl (fun H => zV_20)
theorem zr_21 : zRow 21 := zRow_h (ct := zC21) rfl (fun H => zV_21)
theorem zr_22 : zRow 22 := zRow_h (ct := zC22) rfl (fun H => zV_22)
theorem zr_23 : zRow 23 := zRow_h (ct := zC23) rfl (fun H => zV_23)
theorem zr_24 : zRow 24 := zRow_h (ct := zC24) rfl (fun H => zV_24)
theorem zr_25 : zRow 25 := zRow_h (ct := zC25) rfl (fun H => zV_25)
theorem zr_26 : zRow 26 := zRow_h (ct := zC26) rfl (fun H => zV_26)
theorem zr_27 : zRow 27 := zRow_h (ct := zC27) rfl (fun H => zV_27)
theorem zr_28 : zRow 28 := zRow_h (ct := zC28) rfl (fun H => zV_28)
theorem zr_29 : zRow 29 := zRow_h (ct := zC29) rfl (fun H => zV_29)
theorem zr_30 : zRow 30 := zRow_h (ct := zC30) rfl (fun H => zV_30)
theorem zr_31 : zRow 31 := zRow_h (ct := zC31) rfl (fun H => zV_31)
theorem zr_32 : zRow 32 := zRow_h (ct := zC32) rfl (fun H => zV_32)
theorem zr_33 : zRow 33 := zRow_h (ct := zC33) rfl (fun H => zV_33)
theorem zr_34 : zRow 34 := zRow_a (ct := zC34) rfl (by decide +kernel) zK34
theorem zr_35 : zRow 35 := zRow_a (ct := zC35) rfl (by decide +kernel) zK35
theorem zr_36 : zRow 36 := zRow_a (ct := zC36) rfl (by decide +kernel) zK36
theorem zr_37 : zRow 37 := zRow_a (ct := zC37) rfl (by decide +kernel) zK37
theorem zr_38 : zRow 38 := zRow_a (ct := zC38) rfl (by decide +kernel) zK38
theorem zr_39 : zRow 39 := zRow_a (ct := zC39) rfl (by decide +kernel) zK39
theorem zr_40 : zRow 40 := zRow_a (ct := zC40) rfl (by decide +kernel) zK40
theorem zr_41 : zRow 41 := zRow_a (ct := zC41) rfl (by decide +kernel) zK41
theorem zr_42 : zRow 42 := zRow_a (ct := zC42) rfl (by decide +kernel) zK42
theorem zr_43 : zRow 43 := zRow_a (ct := zC43) rfl (by decide +kernel) zK43
theorem zr_44 : zRow 44 := zRow_a (ct := zC44) rfl (by decide +kernel) zK44
theorem zr_45 : zRow 45 := zRow_a (ct := zC45) rfl (by decide +kernel) zK45
theorem zr_46 : zRow 46 := zRow_a (ct := zC46) rfl (by decide +kernel) zK46
theorem zr_47 : zRow 47 := zRow_a (ct := zC47) rfl (by decide +kernel) zK47
theorem zr_48 : zRow 48 := zRow_a (ct := zC48) rfl (by decide +kernel) zK48
theorem zr_49 : zRow 49 := zRow_a (ct := zC49) rfl (by decide +kernel) zK49
theorem zr_50 : zRow 50 := zRow_a (ct := zC50) rfl (by decide +kernel) zK50
theorem zr_51 : zRow 51 := zRow_a (ct := zC51) rfl (by decide +kernel) zK51
theorem zr_52 : zRow 52 := zRow_a (ct := zC52) rfl (by decide +kernel) zK52
theorem zr_53 : zRow 53 := zRow_a (ct := zC53) rfl (by decide +kernel) zK53
theorem zr_54 : zRow 54 := zRow_a (ct := zC54) rfl (by decide +kernel) zK54
theorem zr_55 : zRow 55 := zRow_a (ct := zC55) rfl (by decide +kernel) zK55
theorem zr_56 : zRow 56 := zRow_a (ct := zC56) rfl (by decide +kernel) zK56
theorem zr_57 : zRow 57 := zRow_a (ct := zC57) rfl (by decide +kernel) zK57
theorem zr_58 : zRow 58 := zRow_a (ct := zC58) rfl (by decide +kernel) zK58
theorem zr_59 : zRow 59 := zRow_a (ct := zC59) rfl (by decide +kernel) zK59
theorem zr_60 : zRow 60 := zRow_a (ct := zC60) rfl (by decide +kernel) zK60
theorem zr_61 : zRow 61 := zRow_a (ct := zC61) rfl (by decide +kernel) zK61
theorem zr_62 : zRow 62 := zRow_a (ct := zC62) rfl (by decide +kernel) zK62
theorem zr_63 : zRow 63 := zRow_a (ct := zC63) rfl (by decide +kernel) zK63
theorem zr_64 : zRow 64 := zRow_a (ct := zC64) rfl (by decide +kernel) zK64
theorem zr_65 : zRow 65 := zRow_a (ct := zC65) rfl (by decide +kernel) zK65
theorem zr_66 : zRow 66 := zRow_a (ct := zC66) rfl (by decide +kernel) zK66
theorem zr_67 : zRow 67 := zRow_a (ct := zC67) rfl (by decide +kernel) zK67
theorem zr_68 : zRow 68 := zRow_a (ct := zC68) rfl (by decide +kernel) zK68
theorem zr_69 : zRow 69 := zRow_a (ct := zC69) rfl (by decide +kernel) zK69
theorem zr_70 : zRow 70 := zRow_a (ct := zC70) rfl (by decide +kernel) zK70
theorem zr_71 : zRow 71 := zRow_a (ct := zC71) rfl (by decide +kernel) zK71
theorem zr_72 : zRow 72 := zRow_a (ct := zC72) rfl (by decide +kernel) zK72
theorem zr_73 : zRow 73 := zRow_a (ct := zC73) rfl (by decide +kernel) zK73
theorem zr_74 : zRow 74 := zRow_a (ct := zC74) rfl (by decide +kernel) zK74
theorem zr_75 : zRow 75 := zRow_a (ct := zC75) rfl (by decide +kernel) zK75
theorem zr_76 : zRow 76 := zRow_a (ct := zC76) rfl (by decide +kernel) zK76
theorem zr_77 : zRow 77 := zRow_a (ct := zC77) rfl (by decide +kernel) zK77
theorem zr_78 : zRow 78 := zRow_a (ct := zC78) rfl (by decide +kernel) zK78
theorem zr_79 : zRow 79 := zRow_a (ct := zC79) rfl (by decide +kernel) zK79
theorem zr_80 : zRow 80 := zRow_a (ct := zC80) rfl (by decide +kernel) zK80
theorem zr_81 : zRow 81 := zRow_a (ct := zC81) rfl (by decide +kernel) zK81
theorem zr_82 : zRow 82 := zRow_a (ct := zC82) rfl (by decide +kernel) zK82
theorem zr_83 : zRow 83 := zRow_a (ct := zC83) rfl (by decide +kernel) zK83
theorem zr_84 : zRow 84 := zRow_a (ct := zC84) rfl (by decide +kernel) zK84
theorem zr_85 : zRow 85 := zRow_a (ct := zC85) rfl (by decide +kernel) zK85
theorem zr_86 : zRow 86 := zRow_a (ct := zC86) rfl (by decide +kernel) zK86
theorem zr_87 : zRow 87 := zRow_a (ct := zC87) rfl (by decide +kernel) zK87
theorem zr_88 : zRow 88 := zRow_a (ct := zC88) rfl (by decide +kernel) zK88
theorem zr_89 : zRow 89 := zRow_a (ct := zC89) rfl (by decide +kernel) zK89
theorem zr_90 : zRow 90 := zRow_a (ct := zC90) rfl (by decide +kernel) zK90
theorem zr_91 : zRow 91 := zRow_a (ct := zC91) rfl (by decide +kernel) zK91
theorem zr_92 : zRow 92 := zRow_a (ct := zC92) rfl (by decide +kernel) zK92
theorem zr_93 : zRow 93 := zRow_a (ct := zC93) rfl (by decide +kernel) zK93
theorem zr_94 : zRow 94 := zRow_a (ct := zC94) rfl (by decide +kernel) zK94
theorem zr_95 : zRow 95 := zRow_a (ct := zC95) rfl (by decide +kernel) zK95
theorem zr_96 : zRow 96 := zRow_a (ct := zC96) rfl (by decide +kernel) zK96
theorem zr_97 : zRow 97 := zRow_a (ct := zC97) rfl (by decide +kernel) zK97
theorem zr_98 : zRow 98 := zRow_a (ct := zC98) rfl (by decide +kernel) zK98
theorem zr_99 : zRow 99 := zRow_a (ct := zC99) rfl (by decide +kernel) zK99
theorem zr_100 : zRow 100 := zRow_a (ct := zC100) rfl (by decide +kernel) zK100
theorem zr_101 : zRow 101 := zRow_a (ct := zC101) rfl (by decide +kernel) zK101
theorem zr_102 : zRow 102 := zRow_a (ct := zC102) rfl (by decide +kernel) zK102
theorem zr_103 : zRow 103 := zRow_a (ct := zC103) rfl (by decide +kernel) zK103
theorem zr_104 : zRow 104 := zRow_a (ct := zC104) rfl (by decide +kernel) zK104
theorem zr_105 : zRow 105 := zRow_a (ct := zC105) rfl (by decide +kernel) zK105
theorem zr_106 : zRow 106 := zRow_a (ct := zC106) rfl (by decide +kernel) zK106
theorem zr_107 : zRow 107 := zRow_a (ct := zC107) rfl (by decide +kernel) zK107
theorem zr_108 : zRow 108 := zRow_a (ct := zC108) rfl (by decide +kernel) zK108
theorem zr_109 : zRow 109 := zRow_a (ct := zC109) rfl (by decide +kernel) zK109
theorem zr_110 : zRow 110 := zRow_a (ct := zC110) rfl (by decide +kernel) zK110
theorem zr_111 : zRow 111 := zRow_a (ct := zC111) rfl (by decide +kernel) zK111
theorem zr_112 : zRow 112 := zRow_a (ct := zC112) rfl (by decide +kernel) zK112
theorem zr_113 : zRow 113 := zRow_a (ct := zC113) rfl (by decide +kernel) zK113
theorem zr_114 : zRow 114 := zRow_a (ct := zC114) rfl (by decide +kernel) zK114
theorem zr_115 : zRow 115 := zRow_a (ct := zC115) rfl (by decide +kernel) zK115
theorem zr_116 : zRow 116 := zRow_a (ct := zC116) rfl (by decide +kernel) zK116
theorem zr_117 : zRow 117 := zRow_a (ct := zC117) rfl (by decide +kernel) zK117
theorem zr_118 : zRow 118 := zRow_a (ct := zC118) rfl (by decide +kernel) zK118
theorem zr_119 : zRow 119 := zRow_a (ct := zC119) rfl (by decide +kernel) zK119
theorem zr_120 : zRow 120 := zRow_a (ct := zC120) rfl (by decide +kernel) zK120
theorem zr_121 : zRow 121 := zRow_a (ct := zC121) rfl (by decide +kernel) zK121
theorem zr_122 : zRow 122 := zRow_a (ct := zC122) rfl (by decide +kernel) zK122
theorem zr_123 : zRow 123 := zRow_a (ct := zC123) rfl (by decide +kernel) zK123
theorem zr_124 : zRow 124 := zRow_a (ct := zC124) rfl (by decide +kernel) zK124
theorem zr_125 : zRow 125 := zRow_a (ct := zC125) rfl (by decide +kernel) zK125
theorem zr_126 : zRow 126 := zRow_a (ct := zC126) rfl (by decide +kernel) zK126
theorem zr_127 : zRow 127 := zRow_a (ct := zC127) rfl (by decide +kernel) zK127
theorem zr_128 : zRow 128 := zRow_a (ct := zC128) rfl (by decide +kernel) zK128
theorem zr_129 : zRow 129 := zRow_a (ct := zC129) rfl (by decide +kernel) zK129
theorem zr_130 : zRow 130 := zRow_a (ct := zC130) rfl (by decide +kernel) zK130
theorem zr_131 : zRow 131 := zRow_a (ct := zC131) rfl (by decide +kernel) zK131
theorem zr_132 : zRow 132 := zRow_a (ct := zC132) rfl (by decide +kernel) zK132
theorem zr_133 : zRow 133 := zRow_a (ct := zC133) rfl (by decide +kernel) zK133
theorem zr_134 : zRow 134 := zRow_a (ct := zC134) rfl (by decide +kernel) zK134
theorem zr_135 : zRow 135 := zRow_a (ct := zC135) rfl (by decide +kernel) zK135
theorem zr_136 : zRow 136 := zRow_a (ct := zC136) rfl (by decide +kernel) zK136
theorem zr_137 : zRow 137 := zRow_a (ct := zC137) rfl (by decide +kernel) zK137
theorem zr_138 : zRow 138 := zRow_a (ct := zC138) rfl (by decide +kernel) zK138
theorem zr_139 : zRow 139 := zRow_a (ct := zC139) rfl (by decide +kernel) zK139
theorem zr_140 : zRow 140 := zRow_a (ct := zC140) rfl (by decide +kernel) zK140
theorem zr_141 : zRow 141 := zRow_a (ct := zC141) rfl (by decide +kernel) zK141
theorem zr_142 : zRow 142 := zRow_a (ct := zC142) rfl (by decide +kernel) zK142
theorem zr_143 : zRow 143 := zRow_a (ct := zC143) rfl (by decide +kernel) zK143
theorem zr_144 : zRow 144 := zRow_a (ct := zC144) rfl (by decide +kernel) zK144
theorem zr_145 : zRow 145 := zRow_a (ct := zC145) rfl (by decide +kernel) zK145
theorem zr_146 : zRow 146 := zRow_a (ct := zC146) rfl (by decide +kernel) zK146
theorem zr_147 : zRow 147 := zRow_a (ct := zC147) rfl (by decide +kernel) zK147
theorem zr_148 : zRow 148 := zRow_a (ct := zC148) rfl (by decide +kernel) zK148
theorem zr_149 : zRow 149 := zRow_a (ct := zC149) rfl (by decide +kernel) zK149
theorem zr_150 : zRow 150 := zRow_a (ct := zC150) rfl (by decide +kernel) zK150
theorem zr_151 : zRow 151 := zRow_a (ct := zC151) rfl (by decide +kernel) zK151
theorem zr_152 : zRow 152 := zRow_a (ct := zC152) rfl (by decide +kernel) zK152
theorem zr_153 : zRow 153 := zRow_a (ct := zC153) rfl (by decide +kernel) zK153
theorem zr_154 : zRow 154 := zRow_a (ct := zC154) rfl (by decide +kernel) zK154
theorem zr_155 : zRow 155 := zRow_a (ct := zC155) rfl (by decide +kernel) zK155
theorem zr_156 : zRow 156 := zRow_a (ct := zC156) rfl (by decide +kernel) zK156
theorem zr_157 : zRow 157 := zRow_a (ct := zC157) rfl (by decide +kernel) zK157
theorem zr_158 : zRow 158 := zRow_a (ct := zC158) rfl (by decide +kernel) zK158
theorem zr_159 : zRow 159 := zRow_a (ct := zC159) rfl (by decide +kernel) zK159
theorem zr_160 : zRow 160 := zRow_a (ct := zC160) rfl (by decide +kernel) zK160
theorem zr_161 : zRow 161 := zRow_a (ct := zC161) rfl (by decide +kernel) zK161
theorem zr_162 : zRow 162 := zRow_a (ct := zC162) rfl (by decide +kernel) zK162
theorem zr_163 : zRow 163 := zRow_a (ct := zC163) rfl (by decide +kernel) zK163
theorem zr_164 : zRow 164 := zRow_a (ct := zC164) rfl (by decide +kernel) zK164
theorem zr_165 : zRow 165 := zRow_a (ct := zC165) rfl (by decide +kernel) zK165
theorem zr_166 : zRow 166 := zRow_a (ct := zC166) rfl (by decide +kernel) zK166
theorem zr_167 : zRow 167 := zRow_a (ct := zC167) rfl (by decide +kernel) zK167
theorem zr_168 : zRow 168 := zRow_a (ct := zC168) rfl (by decide +kernel) zK168
theorem zr_169 : zRow 169 := zRow_a (ct := zC169) rfl (by decide +kernel) zK169
theorem zr_170 : zRow 170 := zRow_a (ct := zC170) rfl (by decide +kernel) zK170
theorem zr_171 : zRow 171 := zRow_a (ct := zC171) rfl (by decide +kernel) zK171
theorem zr_172 : zRow 172 := zRow_a (ct := zC172) rfl (by decide +kernel) zK172
theorem zr_173 : zRow 173 := zRow_a (ct := zC173) rfl (by decide +kernel) zK173
theorem zr_174 : zRow 174 := zRow_a (ct := zC174) rfl (by decide +kernel) zK174
theorem zr_175 : zRow 175 := zRow_a (ct := zC175) rfl (by decide +kernel) zK175
theorem zr_176 : zRow 176 := zRow_a (ct := zC176) rfl (by decide +kernel) zK176
theorem zr_177 : zRow 177 := zRow_a (ct := zC177) rfl (by decide +kernel) zK177
theorem zr_178 : zRow 178 := zRow_a (ct := zC178) rfl (by decide +kernel) zK178
theorem zr_179 : zRow 179 := zRow_a (ct := zC179) rfl (by decide +kernel) zK179
theorem zr_180 : zRow 180 := zRow_a (ct := zC180) rfl (by decide +kernel) zK180
theorem zr_181 : zRow 181 := zRow_a (ct := zC181) rfl (by decide +kernel) zK181
theorem zr_182 : zRow 182 := zRow_a (ct := zC182) rfl (by decide +kernel) zK182
theorem zr_183 : zRow 183 := zRow_a (ct := zC183) rfl (by decide +kernel) zK183
theorem zr_184 : zRow 184 := zRow_a (ct := zC184) rfl (by decide +kernel) zK184
theorem zr_185 : zRow 185 := zRow_a (ct := zC185) rfl (by decide +kernel) zK185
theorem zr_186 : zRow 186 := zRow_a (ct := zC186) rfl (by decide +kernel) zK186
theorem zr_187 : zRow 187 := zRow_a (ct := zC187) rfl (by decide +kernel) zK187
theorem zr_188 : zRow 188 := zRow_a (ct := zC188) rfl (by decide +kernel) zK188
theorem zr_189 : zRow 189 := zRow_a (ct := zC189) rfl (by decide +kernel) zK189
theorem zr_190 : zRow 190 := zRow_a (ct := zC190) rfl (by decide +kernel) zK190
theorem zr_191 : zRow 191 := zRow_a (ct := zC191) rfl (by decide +kernel) zK191
theorem zr_192 : zRow 192 := zRow_a (ct := zC192) rfl (by decide +kernel) zK192
theorem zr_193 : zRow 193 := zRow_a (ct := zC193) rfl (by decide +kernel) zK193
theorem zr_194 : zRow 194 := zRow_a (ct := zC194) rfl (by decide +kernel) zK194
theorem zr_195 : zRow 195 := zRow_a (ct := zC195) rfl (by decide +kernel) zK195
theorem zr_196 : zRow 196 := zRow_a (ct := zC196) rfl (by decide +kernel) zK196
theorem zr_197 : zRow 197 := zRow_a (ct := zC197) rfl (by decide +kernel) zK197
theorem zr_198 : zRow 198 := zRow_a (ct := zC198) rfl (by decide +kernel) zK198
theorem zr_199 : zRow 199 := zRow_a (ct := zC199) rfl (by decide +kernel) zK199
theorem zr_200 : zRow 200 := zRow_a (ct := zC200) rfl (by decide +kernel) zK200
theorem zr_201 : zRow 201 := zRow_a (ct := zC201) rfl (by decide +kernel) zK201
theorem zr_202 : zRow 202 := zRow_a (ct := zC202) rfl (by decide +kernel) zK202
theorem zr_203 : zRow 203 := zRow_a (ct := zC203) rfl (by decide +kernel) zK203
theorem zr_204 : zRow 204 := zRow_a (ct := zC204) rfl (by decide +kernel) zK204
theorem zr_205 : zRow 205 := zRow_a (ct := zC205) rfl (by decide +kernel) zK205
theorem zr_206 : zRow 206 := zRow_a (ct := zC206) rfl (by decide +kernel) zK206
theorem zr_207 : zRow 207 := zRow_a (ct := zC207) rfl (by decide +kernel) zK207
theorem zr_208 : zRow 208 := zRow_a (ct := zC208) rfl (by decide +kernel) zK208
theorem zr_209 : zRow 209 := zRow_a (ct := zC209) rfl (by decide +kernel) zK209
theorem zr_210 : zRow 210 := zRow_a (ct := zC210) rfl (by decide +kernel) zK210
theorem zr_211 : zRow 211 := zRow_a (ct := zC211) rfl (by decide +kernel) zK211
theorem zr_212 : zRow 212 := zRow_a (ct := zC212) rfl (by decide +kernel) zK212
theorem zr_213 : zRow 213 := zRow_a (ct := zC213) rfl (by decide +kernel) zK213
theorem zr_214 : zRow 214 := zRow_a (ct := zC214) rfl (by decide +kernel) zK214
theorem zr_215 : zRow 215 := zRow_a (ct := zC215) rfl (by decide +kernel) zK215
theorem zr_216 : zRow 216 := zRow_a (ct := zC216) rfl (by decide +kernel) zK216
theorem zr_217 : zRow 217 := zRow_a (ct := zC217) rfl (by decide +kernel) zK217
theorem zr_218 : zRow 218 := zRow_a (ct := zC218) rfl (by decide +kernel) zK218
theorem zr_219 : zRow 219 := zRow_a (ct := zC219) rfl (by decide +kernel) zK219
theorem zr_220 : zRow 220 := zRow_a (ct := zC220) rfl (by decide +kernel) zK220
theorem zr_221 : zRow 221 := zRow_a (ct := zC221) rfl (by decide +kernel) zK221
theorem zr_222 : zRow 222 := zRow_a (ct := zC222) rfl (by decide +kernel) zK222
theorem zr_223 : zRow 223 := zRow_a (ct := zC223) rfl (by decide +kernel) zK223
theorem zr_224 : zRow 224 := zRow_a (ct := zC224) rfl (by decide +kernel) zK224
theorem zr_225 : zRow 225 := zRow_a (ct := zC225) rfl (by decide +kernel) zK225
theorem zr_226 : zRow 226 := zRow_a (ct := zC226) rfl (by decide +kernel) zK226
theorem zr_227 : zRow 227 := zRow_a (ct := zC227) rfl (by decide +kernel) zK227
theorem zr_228 : zRow 228 := zRow_a (ct := zC228) rfl (by decide +kernel) zK228
theorem zr_229 : zRow 229 := zRow_a (ct := zC229) rfl (by decide +kernel) zK229
theorem zr_230 : zRow 230 := zRow_a (ct := zC230) rfl (by decide +kernel) zK230
theorem zr_231 : zRow 231 := zRow_a (ct := zC231) rfl (by decide +kernel) zK231
theorem zr_232 : zRow 232 := zRow_a (ct := zC232) rfl (by decide +kernel) zK232
theorem zr_233 : zRow 233 := zRow_a (ct := zC233) rfl (by decide +kernel) zK233
theorem zr_234 : zRow 234 := zRow_a (ct := zC234) rfl (by decide +kernel) zK234
theorem zr_235 : zRow 235 := zRow_a (ct := zC235) rfl (by decide +kernel) zK235
theorem zr_236 : zRow 236 := zRow_a (ct := zC236) rfl (by decide +kernel) zK236
theorem zr_237 : zRow 237 := zRow_a (ct := zC237) rfl (by decide +kernel) zK237
theorem zr_238 : zRow 238 := zRow_h (ct := zC238) rfl (fun H => zV_238 H)
theorem zr_239 : zRow 239 := zRow_h (ct := zC239) rfl (fun H => zV_239 H)
theorem zr_240 : zRow 240 := zRow_h (ct := zC240) rfl (fun H => zV_240 H)
theorem zr_241 : zRow 241 := zRow_h (ct := zC241) rfl (fun H => zV_fm zE1 24 (by decide) (by decide))
theorem zr_242 : zRow 242 := zRow_h (ct := zC242) rfl (fun H => zV_fm zE1 24 (by decide) (by decide))
theorem zr_243 : zRow 243 := zRow_h (ct := zC243) rfl (fun H => zV_243 (fun c9 h9 => H c9 (by omega)))
theorem zr_244 : zRow 244 := zRow_h (ct := zC244) rfl (fun H => zV_fm zE1 24 (by decide) (by decide))
theorem zr_245 : zRow 245 := zRow_a (ct := zC245) rfl (by decide +kernel) zK245
theorem zr_246 : zRow 246 := zRow_a (ct := zC246) rfl (by decide +kernel) zK246
theorem zr_247 : zRow 247 := zRow_a (ct := zC247) rfl (by decide +kernel) zK247
theorem zr_248 : zRow 248 := zRow_a (ct := zC248) rfl (by decide +kernel) zK248
theorem zr_249 : zRow 249 := zRow_a (ct := zC249) rfl (by decide +kernel) zK249
theorem zr_250 : zRow 250 := zRow_a (ct := zC250) rfl (by decide +kernel) zK250
theorem zr_251 : zRow 251 := zRow_a (ct := zC251) rfl (by decide +kernel) zK251
theorem zr_252 : zRow 252 := zRow_a (ct := zC252) rfl (by decide +kernel) zK252
theorem zr_253 : zRow 253 := zRow_a (ct := zC253) rfl (by decide +kernel) zK253
theorem zr_254 : zRow 254 := zRow_a (ct := zC254) rfl (by decide +kernel) zK254
theorem zr_255 : zRow 255 := zRow_a (ct := zC255) rfl (by decide +kernel) zK255
theorem zr_256 : zRow 256 := zRow_a (ct := zC256) rfl (by decide +kernel) zK256
theorem zr_257 : zRow 257 := zRow_a (ct := zC257) rfl (by decide +kernel) zK257
theorem zr_258 : zRow 258 := zRow_a (ct := zC258) rfl (by decide +kernel) zK258
theorem zr_259 : zRow 259 := zRow_a (ct := zC259) rfl (by decide +kernel) zK259
theorem zr_260 : zRow 260 := zRow_a (ct := zC260) rfl (by decide +kernel) zK260
theorem zr_261 : zRow 261 := zRow_a (ct := zC261) rfl (by decide +kernel) zK261
theorem zr_262 : zRow 262 := zRow_a (ct := zC262) rfl (by decide +kernel) zK262
theorem zr_263 : zRow 263 := zRow_a (ct := zC263) rfl (by decide +kernel) zK263
theorem zr_264 : zRow 264 := zRow_a (ct := zC264) rfl (by decide +kernel) zK264
theorem zr_265 : zRow 265 := zRow_a (ct := zC265) rfl (by decide +kernel) zK265
theorem zr_266 : zRow 266 := zRow_a (ct := zC266) rfl (by decide +kernel) zK266
theorem zr_267 : zRow 267 := zRow_a (ct := zC267) rfl (by decide +kernel) zK267
theorem zr_268 : zRow 268 := zRow_a (ct := zC268) rfl (by decide +kernel) zK268
theorem zr_269 : zRow 269 := zRow_a (ct := zC269) rfl (by decide +kernel) zK269
theorem zr_270 : zRow 270 := zRow_a (ct := zC270) rfl (by decide +kernel) zK270
theorem zr_271 : zRow 271 := zRow_a (ct := zC271) rfl (by decide +kernel) zK271
theorem zr_272 : zRow 272 := zRow_a (ct := zC272) rfl (by decide +kernel) zK272
theorem zr_273 : zRow 273 := zRow_a (ct := zC273) rfl (by decide +kernel) zK273
theorem zr_274 : zRow 274 := zRow_a (ct := zC274) rfl (by decide +kernel) zK274
theorem zr_275 : zRow 275 := zRow_h (ct := zC275) rfl (fun H => zV_fm zE1 24 (by decide) (by decide))
theorem zr_276 : zRow 276 := zRow_a (ct := zC276) rfl (by decide +kernel) zK276
theorem zr_277 : zRow 277 := zRow_a (ct := zC277) rfl (by decide +kernel) zK277
theorem zr_278 : zRow 278 := zRow_a (ct := zC278) rfl (by decide +kernel) zK278
theorem zr_279 : zRow 279 := zRow_a (ct := zC279) rfl (by decide +kernel) zK279
theorem zr_280 : zRow 280 := zRow_a (ct := zC280) rfl (by decide +kernel) zK280
theorem zr_281 : zRow 281 := zRow_a (ct := zC281) rfl (by decide +kernel) zK281
theorem zr_282 : zRow 282 := zRow_a (ct := zC282) rfl (by decide +kernel) zK282
theorem zr_283 : zRow 283 := zRow_a (ct := zC283) rfl (by decide +kernel) zK283
theorem zr_284 : zRow 284 := zRow_a (ct := zC284) rfl (by decide +kernel) zK284
theorem zr_285 : zRow 285 := zRow_a (ct := zC285) rfl (by decide +kernel) zK285
theorem zr_286 : zRow 286 := zRow_a (ct := zC286) rfl (by decide +kernel) zK286
theorem zr_287 : zRow 287 := zRow_a (ct := zC287) rfl (by decide +kernel) zK287
theorem zr_288 : zRow 288 := zRow_a (ct := zC288) rfl (by decide +kernel) zK288
theorem zr_289 : zRow 289 := zRow_a (ct := zC289) rfl (by decide +kernel) zK289
theorem zr_290 : zRow 290 := zRow_a (ct := zC290) rfl (by decide +kernel) zK290
theorem zr_291 : zRow 291 := zRow_a (ct := zC291) rfl (by decide +kernel) zK291
theorem zr_292 : zRow 292 := zRow_a (ct := zC292) rfl (by decide +kernel) zK292
theorem zr_293 : zRow 293 := zRow_a (ct := zC293) rfl (by decide +kernel) zK293
theorem zr_294 : zRow 294 := zRow_a (ct := zC294) rfl (by decide +kernel) zK294
theorem zr_295 : zRow 295 := zRow_a (ct := zC295) rfl (by decide +kernel) zK295
theorem zr_296 : zRow 296 := zRow_a (ct := zC296) rfl (by decide +kernel) zK296
theorem zr_297 : zRow 297 := zRow_a (ct := zC297) rfl (by decide +kernel) zK297
theorem zr_298 : zRow 298 := zRow_a (ct := zC298) rfl (by decide +kernel) zK298
theorem zr_299 : zRow 299 := zRow_a (ct := zC299) rfl (by decide +kernel) zK299
theorem zr_300 : zRow 300 := zRow_a (ct := zC300) rfl (by decide +kernel) zK300
theorem zr_301 : zRow 301 := zRow_a (ct := zC301) rfl (by decide +kernel) zK301
theorem zr_all : ∀ c : Nat, zRow c
  | 0 => zr_0
  | 1 => zr_1
  | 2 => zr_2
  | 3 => zr_3
  | 4 => zr_4
  | 5 => zr_5
  | 6 => zr_6
  | 7 => zr_7
  | 8 => zr_8
  | 9 => zr_9
  | 10 => zr_10
  | 11 => zr_11
  | 12 => zr_12
  | 13 => zr_13
  | 14 => zr_14
  | 15 => zr_15
  | 16 => zr_16
  | 17 => zr_17
  | 18 => zr_18
  | 19 => zr_19
  | 20 => zr_20
  | 21 => zr_21
  | 22 => zr_22
  | 23 => zr_23
  | 24 => zr_24
  | 25 => zr_25
  | 26 => zr_26
  | 27 => zr_27
  | 28 => zr_28
  | 29 => zr_29
  | 30 => zr_30
  | 31 => zr_31
  | 32 => zr_32
  | 33 => zr_33
  | 34 => zr_34
  | 35 => zr_35
  | 36 => zr_36
  | 37 => zr_37
  | 38 => zr_38
  | 39 => zr_39
  | 40 => zr_40
  | 41 => zr_41
  | 42 => zr_42
  | 43 => zr_43
  | 44 => zr_44
  | 45 => zr_45
  | 46 => zr_46
  | 47 => zr_47
  | 48 => zr_48
  | 49 => zr_49
  | 50 => zr_50
  | 51 => zr_51
  | 52 => zr_52
  | 53 => zr_53
  | 54 => zr_54
  | 55 => zr_55
  | 56 => zr_56
  | 57 => zr_57
  | 58 => zr_58
  | 59 => zr_59
  | 60 => zr_60
  | 61 => zr_61
  | 62 => zr_62
  | 63 => zr_63
  | 64 => zr_64
  | 65 => zr_65
  | 66 => zr_66
  | 67 => zr_67
  | 68 => zr_68
  | 69 => zr_69
  | 70 => zr_70
  | 71 => zr_71
  | 72 => zr_72
  | 73 => zr_73
  | 74 => zr_74
  | 75 => zr_75
  | 76 => zr_76
  | 77 => zr_77
  | 78 => zr_78
  | 79 => zr_79
  | 80 => zr_80
  | 81 => zr_81
  | 82 => zr_82
  | 83 => zr_83
  | 84 => zr_84
  | 85 => zr_85
  | 86 => zr_86
  | 87 => zr_87
  | 88 => zr_88
  | 89 => zr_89
  | 90 => zr_90
  | 91 => zr_91
  | 92 => zr_92
  | 93 => zr_93
  | 94 => zr_94
  | 95 => zr_95
  | 96 => zr_96
  | 97 => zr_97
  | 98 => zr_98
  | 99 => zr_99
  | 100 => zr_100
  | 101 => zr_101
  | 102 => zr_102
  | 103 => zr_103
  | 104 => zr_104
  | 105 => zr_105
  | 106 => zr_106
  | 107 => zr_107
  | 108 => zr_108
  | 109 => zr_109
  | 110 => zr_110
  | 111 => zr_111
  | 112 => zr_112
  | 113 => zr_113
  | 114 => zr_114
  | 115 => zr_115
  | 116 => zr_116
  | 117 => zr_117
  | 118 => zr_118
  | 119 => zr_119
  | 120 => zr_120
  | 121 => zr_121
  | 122 => zr_122
  | 123 => zr_123
  | 124 => zr_124
  | 125 => zr_125
  | 126 => zr_126
  | 127 => zr_127
  | 128 => zr_128
  | 129 => zr_129
  | 130 => zr_130
  | 131 => zr_131
  | 132 => zr_132
  | 133 => zr_133
  | 134 => zr_134
  | 135 => zr_135
  | 136 => zr_136
  | 137 => zr_137
  | 138 => zr_138
  | 139 => zr_139
  | 140 => zr_140
  | 141 => zr_141
  | 142 => zr_142
  | 143 => zr_143
  | 144 => zr_144
  | 145 => zr_145
  | 146 => zr_146
  | 147 => zr_147
  | 148 => zr_148
  | 149 => zr_149
  | 150 => zr_150
  | 151 => zr_151
  | 152 => zr_152
  | 153 => zr_153
  | 154 => zr_154
  | 155 => zr_155
  | 156 => zr_156
  | 157 => zr_157
  | 158 => zr_158
  | 159 => zr_159
  | 160 => zr_160
  | 161 => zr_161
  | 162 => zr_162
  | 163 => zr_163
  | 164 => zr_164
  | 165 => zr_165
  | 166 => zr_166
  | 167 => zr_167
  | 168 => zr_168
  | 169 => zr_169
  | 170 => zr_170
  | 171 => zr_171
  | 172 => zr_172
  | 173 => zr_173
  | 174 => zr_174
  | 175 => zr_175
  | 176 => zr_176
  | 177 => zr_177
  | 178 => zr_178
  | 179 => zr_179
  | 180 => zr_180
  | 181 => zr_181
  | 182 => zr_182
  | 183 => zr_183
  | 184 => zr_184
  | 185 => zr_185
  | 186 => zr_186
  | 187 => zr_187
  | 188 => zr_188
  | 189 => zr_189
  | 190 => zr_190
  | 191 => zr_191
  | 192 => zr_192
  | 193 => zr_193
  | 194 => zr_194
  | 195 => zr_195
  | 196 => zr_196
  | 197 => zr_197
  | 198 => zr_198
  | 199 => zr_199
  | 200 => zr_200
  | 201 => zr_201
  | 202 => zr_202
  | 203 => zr_203
  | 204 => zr_204
  | 205 => zr_205
  | 206 => zr_206
  | 207 => zr_207
  | 208 => zr_208
  | 209 => zr_209
  | 210 => zr_210
  | 211 => zr_211
  | 212 => zr_212
  | 213 => zr_213
  | 214 => zr_214
  | 215 => zr_215
  | 216 => zr_216
  | 217 => zr_217
  | 218 => zr_218
  | 219 => zr_219
  | 220 => zr_220
  | 221 => zr_221
  | 222 => zr_222
  | 223 => zr_223
  | 224 => zr_224
  | 225 => zr_225
  | 226 => zr_226
  | 227 => zr_227
  | 228 => zr_228
  | 229 => zr_229
  | 230 => zr_230
  | 231 => zr_231
  | 232 => zr_232
  | 233 => zr_233
  | 234 => zr_234
  | 235 => zr_235
  | 236 => zr_236
  | 237 => zr_237
  | 238 => zr_238
  | 239 => zr_239
  | 240 => zr_240
  | 241 => zr_241
  | 242 => zr_242
  | 243 => zr_243
  | 244 => zr_244
  | 245 => zr_245
  | 246 => zr_246
  | 247 => zr_247
  | 248 => zr_248
  | 249 => zr_249
  | 250 => zr_250
  | 251 => zr_251
  | 252 => zr_252
  | 253 => zr_253
  | 254 => zr_254
  | 255 => zr_255
  | 256 => zr_256
  | 257 => zr_257
  | 258 => zr_258
  | 259 => zr_259
  | 260 => zr_260
  | 261 => zr_261
  | 262 => zr_262
  | 263 => zr_263
  | 264 => zr_264
  | 265 => zr_265
  | 266 => zr_266
  | 267 => zr_267
  | 268 => zr_268
  | 269 => zr_269
  | 270 => zr_270
  | 271 => zr_271
  | 272 => zr_272
  | 273 => zr_273
  | 274 => zr_274
  | 275 => zr_275
  | 276 => zr_276
  | 277 => zr_277
  | 278 => zr_278
  | 279 => zr_279
  | 280 => zr_280
  | 281 => zr_281
  | 282 => zr_282
  | 283 => zr_283
  | 284 => zr_284
  | 285 => zr_285
  | 286 => zr_286
  | 287 => zr_287
  | 288 => zr_288
  | 289 => zr_289
  | 290 => zr_290
  | 291 => zr_291
  | 292 => zr_292
  | 293 => zr_293
  | 294 => zr_294
  | 295 => zr_295
  | 296 => zr_296
  | 297 => zr_297
  | 298 => zr_298
  | 299 => zr_299
  | 300 => zr_300
  | 301 => zr_301
  | n + 302 => fun ct h => by
    rw [List.getElem?_eq_none (show zCtl.length ≤ n + 302 by rw [show zCtl.length = 302 from by decide +kernel]; omega)] at h
    cases h
theorem zAll : ∀ (c : Nat) (c' : zCt), zCtl[c]? = some c' → zVd z_tt zE1 c' := zcts_ok (cand := zCand) (fun c ct h => zr_all c ct h)
theorem z_goal (L : Nat) (xs : Nat → Int32) (h : L ≤ 3072) : ∃ n d hF x y, z_run (L, xs) n d 343 0 [(0, .ref zS)] [] [] = some (.inl (some (.int 1)), hF, x, y) ∧ d ≤ 1400 ∧ x ≤ 601024 ∧ y ≤ 7293034 := by
  obtain ⟨n, o, hF, x, y, e, q1, q2, q3⟩ := z_goal0 zAll (L, xs) h
  subst q1
  exact ⟨n, 100, hF, x, y, e, by omega, q2, q3⟩
end
