/-! THE BODIES, checked by the kernel: methods 200 to 239 -/
theorem xb_200 : xbody 200 62 (xgd 62 xc200 xh200) = true := by decide +kernel
theorem xcw_200 : Cond.code (xNm 200).1 (xNm 200).2.1 (xNm 200).2.2.1 (xNm 200).2.2.2.1 ∈ wsG := List.mem_filter.mpr ⟨xtb_in (k := 4) (List.mem_of_getElem? (i := 224) rfl), rfl⟩
theorem xb_201 : xbody 201 132 (xgd 132 xc201 xh201) = true := by decide +kernel
theorem xcw_201 : Cond.code (xNm 201).1 (xNm 201).2.1 (xNm 201).2.2.1 (xNm 201).2.2.2.1 ∈ wsG := List.mem_filter.mpr ⟨xtb_in (k := 7) (List.mem_of_getElem? (i := 188) rfl), rfl⟩
theorem xb_202 : xbody 202 37 (xgd 37 xc202 xh202) = true := by decide +kernel
theorem xcw_202 : Cond.code (xNm 202).1 (xNm 202).2.1 (xNm 202).2.2.1 (xNm 202).2.2.2.1 ∈ wsG := List.mem_filter.mpr ⟨xtb_in (k := 4) (List.mem_of_getElem? (i := 236) rfl), rfl⟩
theorem xb_203 : xbody 203 35 (xgd 35 xc203 xh203) = true := by decide +kernel
theorem xcw_203 : Cond.code (xNm 203).1 (xNm 203).2.1 (xNm 203).2.2.1 (xNm 203).2.2.2.1 ∈ wsG := List.mem_filter.mpr ⟨xtb_in (k := 7) (List.mem_of_getElem? (i := 192) rfl), rfl⟩
theorem xb_204 : xbody 204 44 (xgd 44 xc204 xh204) = true := by decide +kernel
theorem xcw_204 : Cond.code (xNm 204).1 (xNm 204).2.1 (xNm 204).2.2.1 (xNm 204).2.2.2.1 ∈ wsG := List.mem_filter.mpr ⟨xtb_in (k := 5) (List.mem_of_getElem? (i := 9) rfl), rfl⟩
theorem xb_205 : xbody 205 123 (xgd 123 xc205 xh205) = true := by decide +kernel
theorem xcw_205 : Cond.code (xNm 205).1 (xNm 205).2.1 (xNm 205).2.2.1 (xNm 205).2.2.2.1 ∈ wsG := List.mem_filter.mpr ⟨xtb_in (k := 5) (List.mem_of_getElem? (i := 19) rfl), rfl⟩
theorem xb_206 : xbody 206 31 (xgd 31 xc206 xh206) = true := by decide +kernel
theorem xcw_206 : Cond.code (xNm 206).1 (xNm 206).2.1 (xNm 206).2.2.1 (xNm 206).2.2.2.1 ∈ wsG := List.mem_filter.mpr ⟨xtb_in (k := 5) (List.mem_of_getElem? (i := 30) rfl), rfl⟩
theorem xb_207 : xbody 207 30 (xgd 30 xc207 xh207) = true := by decide +kernel
theorem xcw_207 : Cond.code (xNm 207).1 (xNm 207).2.1 (xNm 207).2.2.1 (xNm 207).2.2.2.1 ∈ wsG := List.mem_filter.mpr ⟨xtb_in (k := 5) (List.mem_of_getElem? (i := 34) rfl), rfl⟩
theorem xb_208 : xbody 208 12 (xgd 12 xc208 xh208) = true := by decide +kernel
theorem xcw_208 : Cond.code (xNm 208).1 (xNm 208).2.1 (xNm 208).2.2.1 (xNm 208).2.2.2.1 ∈ wsG := List.mem_filter.mpr ⟨xtb_in (k := 5) (List.mem_of_getElem? (i := 50) rfl), rfl⟩
theorem xb_209 : xbody 209 301 (xgd 301 xc209 xh209) = true := by decide +kernel
theorem xcw_209 : Cond.code (xNm 209).1 (xNm 209).2.1 (xNm 209).2.2.1 (xNm 209).2.2.2.1 ∈ wsG := List.mem_filter.mpr ⟨xtb_in (k := 5) (List.mem_of_getElem? (i := 41) rfl), rfl⟩
theorem xb_210 : xbody 210 85 (xgd 85 xc210 xh210) = true := by decide +kernel
theorem xcw_210 : Cond.code (xNm 210).1 (xNm 210).2.1 (xNm 210).2.2.1 (xNm 210).2.2.2.1 ∈ wsG := List.mem_filter.mpr ⟨xtb_in (k := 5) (List.mem_of_getElem? (i := 38) rfl), rfl⟩
theorem xb_211 : xbody 211 186 (xgd 186 xc211 xh211) = true := by decide +kernel
theorem xcw_211 : Cond.code (xNm 211).1 (xNm 211).2.1 (xNm 211).2.2.1 (xNm 211).2.2.2.1 ∈ wsG := List.mem_filter.mpr ⟨xtb_in (k := 5) (List.mem_of_getElem? (i := 25) rfl), rfl⟩
theorem xb_212 : xbody 212 106 (xgd 106 xc212 xh212) = true := by decide +kernel
theorem xcw_212 : Cond.code (xNm 212).1 (xNm 212).2.1 (xNm 212).2.2.1 (xNm 212).2.2.2.1 ∈ wsG := List.mem_filter.mpr ⟨xtb_in (k := 5) (List.mem_of_getElem? (i := 54) rfl), rfl⟩
theorem xb_213 : xbody 213 18 (xgd 18 xc213 xh213) = true := by decide +kernel
theorem xcw_213 : Cond.code (xNm 213).1 (xNm 213).2.1 (xNm 213).2.2.1 (xNm 213).2.2.2.1 ∈ wsG := List.mem_filter.mpr ⟨xtb_in (k := 5) (List.mem_of_getElem? (i := 60) rfl), rfl⟩
theorem xb_214 : xbody 214 26 (xgd 26 xc214 xh214) = true := by decide +kernel
theorem xcw_214 : Cond.code (xNm 214).1 (xNm 214).2.1 (xNm 214).2.2.1 (xNm 214).2.2.2.1 ∈ wsG := List.mem_filter.mpr ⟨xtb_in (k := 5) (List.mem_of_getElem? (i := 64) rfl), rfl⟩
theorem xb_215 : xbody 215 207 (xgd 207 xc215 xh215) = true := by decide +kernel
theorem xcw_215 : Cond.code (xNm 215).1 (xNm 215).2.1 (xNm 215).2.2.1 (xNm 215).2.2.2.1 ∈ wsG := List.mem_filter.mpr ⟨xtb_in (k := 5) (List.mem_of_getElem? (i := 15) rfl), rfl⟩
theorem xb_216 : xbody 216 134 (xgd 134 xc216 xh216) = true := by decide +kernel
theorem xcw_216 : Cond.code (xNm 216).1 (xNm 216).2.1 (xNm 216).2.2.1 (xNm 216).2.2.2.1 ∈ wsG := List.mem_filter.mpr ⟨xtb_in (k := 5) (List.mem_of_getElem? (i := 4) rfl), rfl⟩
theorem xb_217 : xbody 217 77 (xgd 77 xc217 xh217) = true := by decide +kernel
theorem xcw_217 : Cond.code (xNm 217).1 (xNm 217).2.1 (xNm 217).2.2.1 (xNm 217).2.2.2.1 ∈ wsG := List.mem_filter.mpr ⟨xtb_in (k := 5) (List.mem_of_getElem? (i := 0) rfl), rfl⟩
theorem xb_218 : xbody 218 191 (xgd 191 xc218 xh218) = true := by decide +kernel
theorem xcw_218 : Cond.code (xNm 218).1 (xNm 218).2.1 (xNm 218).2.2.1 (xNm 218).2.2.2.1 ∈ wsG := List.mem_filter.mpr ⟨xtb_in (k := 7) (List.mem_of_getElem? (i := 208) rfl), rfl⟩
theorem xb_219 : xbody 219 30 (xgd 30 xc219 xh219) = true := by decide +kernel
theorem xcw_219 : Cond.code (xNm 219).1 (xNm 219).2.1 (xNm 219).2.2.1 (xNm 219).2.2.2.1 ∈ wsG := List.mem_filter.mpr ⟨xtb_in (k := 7) (List.mem_of_getElem? (i := 222) rfl), rfl⟩
theorem xb_220 : xbody 220 225 (xgd 225 xc220 xh220) = true := by decide +kernel
theorem xcw_220 : Cond.code (xNm 220).1 (xNm 220).2.1 (xNm 220).2.2.1 (xNm 220).2.2.2.1 ∈ wsG := List.mem_filter.mpr ⟨xtb_in (k := 7) (List.mem_of_getElem? (i := 219) rfl), rfl⟩
theorem xb_221 : xbody 221 182 (xgd 182 xc221 xh221) = true := by decide +kernel
theorem xcw_221 : Cond.code (xNm 221).1 (xNm 221).2.1 (xNm 221).2.2.1 (xNm 221).2.2.2.1 ∈ wsG := List.mem_filter.mpr ⟨xtb_in (k := 7) (List.mem_of_getElem? (i := 216) rfl), rfl⟩
theorem xb_222 : xbody 222 114 (xgd 114 xc222 xh222) = true := by decide +kernel
theorem xcw_222 : Cond.code (xNm 222).1 (xNm 222).2.1 (xNm 222).2.2.1 (xNm 222).2.2.2.1 ∈ wsG := List.mem_filter.mpr ⟨xtb_in (k := 7) (List.mem_of_getElem? (i := 212) rfl), rfl⟩
theorem xb_223 : xbody 223 30 (xgd 30 xc223 xh223) = true := by decide +kernel
theorem xcw_223 : Cond.code (xNm 223).1 (xNm 223).2.1 (xNm 223).2.2.1 (xNm 223).2.2.2.1 ∈ wsG := List.mem_filter.mpr ⟨xtb_in (k := 7) (List.mem_of_getElem? (i := 232) rfl), rfl⟩
theorem xb_224 : xbody 224 68 (xgd 68 xc224 xh224) = true := by decide +kernel
theorem xcw_224 : Cond.code (xNm 224).1 (xNm 224).2.1 (xNm 224).2.2.1 (xNm 224).2.2.2.1 ∈ wsG := List.mem_filter.mpr ⟨xtb_in (k := 7) (List.mem_of_getElem? (i := 228) rfl), rfl⟩
theorem xb_225 : xbody 225 327 (xgd 327 xc225 xh225) = true := by decide +kernel
theorem xcw_225 : Cond.code (xNm 225).1 (xNm 225).2.1 (xNm 225).2.2.1 (xNm 225).2.2.2.1 ∈ wsG := List.mem_filter.mpr ⟨xtb_in (k := 7) (List.mem_of_getElem? (i := 204) rfl), rfl⟩
theorem xb_226 : xbody 226 60 (xgd 60 xc226 xh226) = true := by decide +kernel
theorem xcw_226 : Cond.code (xNm 226).1 (xNm 226).2.1 (xNm 226).2.2.1 (xNm 226).2.2.2.1 ∈ wsG := List.mem_filter.mpr ⟨xtb_in (k := 7) (List.mem_of_getElem? (i := 200) rfl), rfl⟩
theorem xb_227 : xbody 227 62 (xgd 62 xc227 xh227) = true := by decide +kernel
theorem xcw_227 : Cond.code (xNm 227).1 (xNm 227).2.1 (xNm 227).2.2.1 (xNm 227).2.2.2.1 ∈ wsG := List.mem_filter.mpr ⟨xtb_in (k := 7) (List.mem_of_getElem? (i := 196) rfl), rfl⟩
theorem xb_228 : xbody 228 24 (xgd 24 xc228 xh228) = true := by decide +kernel
theorem xcw_228 : Cond.code (xNm 228).1 (xNm 228).2.1 (xNm 228).2.2.1 (xNm 228).2.2.2.1 ∈ wsG := List.mem_filter.mpr ⟨xtb_in (k := 5) (List.mem_of_getElem? (i := 77) rfl), rfl⟩
theorem xb_229 : xbody 229 35 (xgd 35 xc229 xh229) = true := by decide +kernel
theorem xcw_229 : Cond.code (xNm 229).1 (xNm 229).2.1 (xNm 229).2.2.1 (xNm 229).2.2.2.1 ∈ wsG := List.mem_filter.mpr ⟨xtb_in (k := 5) (List.mem_of_getElem? (i := 84) rfl), rfl⟩
theorem xb_230 : xbody 230 65 (xgd 65 xc230 xh230) = true := by decide +kernel
theorem xcw_230 : Cond.code (xNm 230).1 (xNm 230).2.1 (xNm 230).2.2.1 (xNm 230).2.2.2.1 ∈ wsG := List.mem_filter.mpr ⟨xtb_in (k := 5) (List.mem_of_getElem? (i := 73) rfl), rfl⟩
theorem xb_231 : xbody 231 70 (xgd 70 xc231 xh231) = true := by decide +kernel
theorem xcw_231 : Cond.code (xNm 231).1 (xNm 231).2.1 (xNm 231).2.2.1 (xNm 231).2.2.2.1 ∈ wsG := List.mem_filter.mpr ⟨xtb_in (k := 7) (List.mem_of_getElem? (i := 236) rfl), rfl⟩
theorem xb_232 : xbody 232 40 (xgd 40 xc232 xh232) = true := by decide +kernel
theorem xcw_232 : Cond.code (xNm 232).1 (xNm 232).2.1 (xNm 232).2.2.1 (xNm 232).2.2.2.1 ∈ wsG := List.mem_filter.mpr ⟨xtb_in (k := 5) (List.mem_of_getElem? (i := 105) rfl), rfl⟩
theorem xb_233 : xbody 233 100 (xgd 100 xc233 xh233) = true := by decide +kernel
theorem xcw_233 : Cond.code (xNm 233).1 (xNm 233).2.1 (xNm 233).2.2.1 (xNm 233).2.2.2.1 ∈ wsG := List.mem_filter.mpr ⟨xtb_in (k := 5) (List.mem_of_getElem? (i := 101) rfl), rfl⟩
theorem xb_234 : xbody 234 220 (xgd 220 xc234 xh234) = true := by decide +kernel
theorem xcw_234 : Cond.code (xNm 234).1 (xNm 234).2.1 (xNm 234).2.2.1 (xNm 234).2.2.2.1 ∈ wsG := List.mem_filter.mpr ⟨xtb_in (k := 5) (List.mem_of_getElem? (i := 111) rfl), rfl⟩
theorem xb_235 : xbody 235 78 (xgd 78 xc235 xh235) = true := by decide +kernel
theorem xcw_235 : Cond.code (xNm 235).1 (xNm 235).2.1 (xNm 235).2.2.1 (xNm 235).2.2.2.1 ∈ wsG := List.mem_filter.mpr ⟨xtb_in (k := 5) (List.mem_of_getElem? (i := 97) rfl), rfl⟩
theorem xb_236 : xbody 236 58 (xgd 58 xc236 xh236) = true := by decide +kernel
theorem xcw_236 : Cond.code (xNm 236).1 (xNm 236).2.1 (xNm 236).2.2.1 (xNm 236).2.2.2.1 ∈ wsG := List.mem_filter.mpr ⟨xtb_in (k := 5) (List.mem_of_getElem? (i := 93) rfl), rfl⟩
theorem xb_237 : xbody 237 95 (xgd 95 xc237 xh237) = true := by decide +kernel
theorem xcw_237 : Cond.code (xNm 237).1 (xNm 237).2.1 (xNm 237).2.2.1 (xNm 237).2.2.2.1 ∈ wsG := List.mem_filter.mpr ⟨xtb_in (k := 5) (List.mem_of_getElem? (i := 89) rfl), rfl⟩
theorem xb_238 : xbody 238 306 (xgd 306 xc238 xh238) = true := by decide +kernel
theorem xcw_238 : Cond.code (xNm 238).1 (xNm 238).2.1 (xNm 238).2.2.1 (xNm 238).2.2.2.1 ∈ wsG := List.mem_filter.mpr ⟨xtb_in (k := 8) (List.mem_of_getElem? (i := 4) rfl), rfl⟩
theorem xb_239 : xbody 239 247 (xgd 247 xc239 xh239) = true := by decide +kernel
theorem xcw_239 : Cond.code (xNm 239).1 (xNm 239).2.1 (xNm 239).2.2.1 (xNm 239).2.2.2.1 ∈ wsG := List.mem_filter.mpr ⟨xtb_in (k := 8) (List.mem_of_getElem? (i := 0) rfl), rfl⟩
