/-! THE BODIES, checked by the kernel: methods 240 to 261 -/
theorem xb_240 : xbody 240 78 (xgd 78 xc240 xh240) = true := by decide +kernel
theorem xcw_240 : Cond.code (xNm 240).1 (xNm 240).2.1 (xNm 240).2.2.1 (xNm 240).2.2.2.1 ∈ wsG := List.mem_filter.mpr ⟨xtb_in (k := 5) (List.mem_of_getElem? (i := 115) rfl), rfl⟩
theorem xb_241 : xbody 241 74 (xgd 74 xc241 xh241) = true := by decide +kernel
theorem xcw_241 : Cond.code (xNm 241).1 (xNm 241).2.1 (xNm 241).2.2.1 (xNm 241).2.2.2.1 ∈ wsG := List.mem_filter.mpr ⟨xtb_in (k := 8) (List.mem_of_getElem? (i := 8) rfl), rfl⟩
theorem xb_242 : xbody 242 67 (xgd 67 xc242 xh242) = true := by decide +kernel
theorem xcw_242 : Cond.code (xNm 242).1 (xNm 242).2.1 (xNm 242).2.2.1 (xNm 242).2.2.2.1 ∈ wsG := List.mem_filter.mpr ⟨xtb_in (k := 5) (List.mem_of_getElem? (i := 123) rfl), rfl⟩
theorem xb_243 : xbody 243 59 (xgd 59 xc243 xh243) = true := by decide +kernel
theorem xcw_243 : Cond.code (xNm 243).1 (xNm 243).2.1 (xNm 243).2.2.1 (xNm 243).2.2.2.1 ∈ wsG := List.mem_filter.mpr ⟨xtb_in (k := 5) (List.mem_of_getElem? (i := 119) rfl), rfl⟩
theorem xb_244 : xbody 244 137 (xgd 137 xc244 xh244) = true := by decide +kernel
theorem xcw_244 : Cond.code (xNm 244).1 (xNm 244).2.1 (xNm 244).2.2.1 (xNm 244).2.2.2.1 ∈ wsG := List.mem_filter.mpr ⟨xtb_in (k := 8) (List.mem_of_getElem? (i := 12) rfl), rfl⟩
theorem xb_245 : xbody 245 82 (xgd 82 xc245 xh245) = true := by decide +kernel
theorem xcw_245 : Cond.code (xNm 245).1 (xNm 245).2.1 (xNm 245).2.2.1 (xNm 245).2.2.2.1 ∈ wsG := List.mem_filter.mpr ⟨xtb_in (k := 5) (List.mem_of_getElem? (i := 135) rfl), rfl⟩
theorem xb_246 : xbody 246 34 (xgd 34 xc246 xh246) = true := by decide +kernel
theorem xcw_246 : Cond.code (xNm 246).1 (xNm 246).2.1 (xNm 246).2.2.1 (xNm 246).2.2.2.1 ∈ wsG := List.mem_filter.mpr ⟨xtb_in (k := 5) (List.mem_of_getElem? (i := 131) rfl), rfl⟩
theorem xb_247 : xbody 247 12 (xgd 12 xc247 xh247) = true := by decide +kernel
theorem xcw_247 : Cond.code (xNm 247).1 (xNm 247).2.1 (xNm 247).2.2.1 (xNm 247).2.2.2.1 ∈ wsG := List.mem_filter.mpr ⟨xtb_in (k := 5) (List.mem_of_getElem? (i := 127) rfl), rfl⟩
theorem xb_248 : xbody 248 119 (xgd 119 xc248 xh248) = true := by decide +kernel
theorem xcw_248 : Cond.code (xNm 248).1 (xNm 248).2.1 (xNm 248).2.2.1 (xNm 248).2.2.2.1 ∈ wsG := List.mem_filter.mpr ⟨xtb_in (k := 8) (List.mem_of_getElem? (i := 20) rfl), rfl⟩
theorem xb_249 : xbody 249 47 (xgd 47 xc249 xh249) = true := by decide +kernel
theorem xcw_249 : Cond.code (xNm 249).1 (xNm 249).2.1 (xNm 249).2.2.1 (xNm 249).2.2.2.1 ∈ wsG := List.mem_filter.mpr ⟨xtb_in (k := 8) (List.mem_of_getElem? (i := 16) rfl), rfl⟩
theorem xb_250 : xbody 250 127 (xgd 127 xc250 xh250) = true := by decide +kernel
theorem xcw_250 : Cond.code (xNm 250).1 (xNm 250).2.1 (xNm 250).2.2.1 (xNm 250).2.2.2.1 ∈ wsG := List.mem_filter.mpr ⟨xtb_in (k := 5) (List.mem_of_getElem? (i := 143) rfl), rfl⟩
theorem xb_251 : xbody 251 20 (xgd 20 xc251 xh251) = true := by decide +kernel
theorem xcw_251 : Cond.code (xNm 251).1 (xNm 251).2.1 (xNm 251).2.2.1 (xNm 251).2.2.2.1 ∈ wsG := List.mem_filter.mpr ⟨xtb_in (k := 5) (List.mem_of_getElem? (i := 139) rfl), rfl⟩
theorem xb_252 : xbody 252 227 (xgd 227 xc252 xh252) = true := by decide +kernel
theorem xcw_252 : Cond.code (xNm 252).1 (xNm 252).2.1 (xNm 252).2.2.1 (xNm 252).2.2.2.1 ∈ wsG := List.mem_filter.mpr ⟨xtb_in (k := 8) (List.mem_of_getElem? (i := 24) rfl), rfl⟩
theorem xb_253 : xbody 253 27 (xgd 27 xc253 xh253) = true := by decide +kernel
theorem xcw_253 : Cond.code (xNm 253).1 (xNm 253).2.1 (xNm 253).2.2.1 (xNm 253).2.2.2.1 ∈ wsG := List.mem_filter.mpr ⟨xtb_in (k := 5) (List.mem_of_getElem? (i := 159) rfl), rfl⟩
theorem xb_254 : xbody 254 62 (xgd 62 xc254 xh254) = true := by decide +kernel
theorem xcw_254 : Cond.code (xNm 254).1 (xNm 254).2.1 (xNm 254).2.2.1 (xNm 254).2.2.2.1 ∈ wsG := List.mem_filter.mpr ⟨xtb_in (k := 5) (List.mem_of_getElem? (i := 155) rfl), rfl⟩
theorem xb_255 : xbody 255 77 (xgd 77 xc255 xh255) = true := by decide +kernel
theorem xcw_255 : Cond.code (xNm 255).1 (xNm 255).2.1 (xNm 255).2.2.1 (xNm 255).2.2.2.1 ∈ wsG := List.mem_filter.mpr ⟨xtb_in (k := 5) (List.mem_of_getElem? (i := 164) rfl), rfl⟩
theorem xb_256 : xbody 256 31 (xgd 31 xc256 xh256) = true := by decide +kernel
theorem xcw_256 : Cond.code (xNm 256).1 (xNm 256).2.1 (xNm 256).2.2.1 (xNm 256).2.2.2.1 ∈ wsG := List.mem_filter.mpr ⟨xtb_in (k := 5) (List.mem_of_getElem? (i := 169) rfl), rfl⟩
theorem xb_257 : xbody 257 61 (xgd 61 xc257 xh257) = true := by decide +kernel
theorem xcw_257 : Cond.code (xNm 257).1 (xNm 257).2.1 (xNm 257).2.2.1 (xNm 257).2.2.2.1 ∈ wsG := List.mem_filter.mpr ⟨xtb_in (k := 5) (List.mem_of_getElem? (i := 174) rfl), rfl⟩
theorem xb_258 : xbody 258 72 (xgd 72 xc258 xh258) = true := by decide +kernel
theorem xcw_258 : Cond.code (xNm 258).1 (xNm 258).2.1 (xNm 258).2.2.1 (xNm 258).2.2.2.1 ∈ wsG := List.mem_filter.mpr ⟨xtb_in (k := 5) (List.mem_of_getElem? (i := 151) rfl), rfl⟩
theorem xb_259 : xbody 259 22 (xgd 22 xc259 xh259) = true := by decide +kernel
theorem xcw_259 : Cond.code (xNm 259).1 (xNm 259).2.1 (xNm 259).2.2.1 (xNm 259).2.2.2.1 ∈ wsG := List.mem_filter.mpr ⟨xtb_in (k := 5) (List.mem_of_getElem? (i := 147) rfl), rfl⟩
theorem xb_260 : xbody 260 12 (xgd 12 xc260 xh260) = true := by decide +kernel
theorem xcw_260 : Cond.code (xNm 260).1 (xNm 260).2.1 (xNm 260).2.2.1 (xNm 260).2.2.2.1 ∈ wsG := List.mem_filter.mpr ⟨xtb_in (k := 8) (List.mem_of_getElem? (i := 28) rfl), rfl⟩
theorem xb_261 : xbody 261 22 (xgd 22 xc261 xh261) = true := by decide +kernel
theorem xcw_261 : Cond.code (xNm 261).1 (xNm 261).2.1 (xNm 261).2.2.1 (xNm 261).2.2.2.1 ∈ wsG := List.mem_filter.mpr ⟨xtb_in (k := 5) (List.mem_of_getElem? (i := 180) rfl), rfl⟩
