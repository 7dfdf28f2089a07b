/-! THE BODIES, checked by the kernel: methods 0 to 69 -/
theorem xb_0 : xbody 0 14 (xgd 14 xc0 xh0) = true := by decide +kernel
theorem xcw_0 : Cond.code (xNm 0).1 (xNm 0).2.1 (xNm 0).2.2.1 (xNm 0).2.2.2.1 ∈ wsG := List.mem_filter.mpr ⟨xtb_in (k := 5) (List.mem_of_getElem? (i := 187) rfl), rfl⟩
theorem xb_1 : xbody 1 11 (xgd 11 xc1 xh1) = true := by decide +kernel
theorem xcw_1 : Cond.code (xNm 1).1 (xNm 1).2.1 (xNm 1).2.2.1 (xNm 1).2.2.2.1 ∈ wsG := List.mem_filter.mpr ⟨xtb_in (k := 4) (List.mem_of_getElem? (i := 121) rfl), rfl⟩
theorem xb_2 : xbody 2 11 (xgd 11 xc2 xh2) = true := by decide +kernel
theorem xcw_2 : Cond.code (xNm 2).1 (xNm 2).2.1 (xNm 2).2.2.1 (xNm 2).2.2.2.1 ∈ wsG := List.mem_filter.mpr ⟨xtb_in (k := 4) (List.mem_of_getElem? (i := 140) rfl), rfl⟩
theorem xb_3 : xbody 3 18 (xgd 18 xc3 xh3) = true := by decide +kernel
theorem xcw_3 : Cond.code (xNm 3).1 (xNm 3).2.1 (xNm 3).2.2.1 (xNm 3).2.2.2.1 ∈ wsG := List.mem_filter.mpr ⟨xtb_in (k := 1) (List.mem_of_getElem? (i := 32) rfl), rfl⟩
theorem xb_4 : xbody 4 81 (xgd 81 xc4 xh4) = true := by decide +kernel
theorem xcw_4 : Cond.code (xNm 4).1 (xNm 4).2.1 (xNm 4).2.2.1 (xNm 4).2.2.2.1 ∈ wsG := List.mem_filter.mpr ⟨xtb_in (k := 1) (List.mem_of_getElem? (i := 43) rfl), rfl⟩
theorem xb_5 : xbody 5 18 (xgd 18 xc5 xh5) = true := by decide +kernel
theorem xcw_5 : Cond.code (xNm 5).1 (xNm 5).2.1 (xNm 5).2.2.1 (xNm 5).2.2.2.1 ∈ wsG := List.mem_filter.mpr ⟨xtb_in (k := 1) (List.mem_of_getElem? (i := 88) rfl), rfl⟩
theorem xb_6 : xbody 6 76 (xgd 76 xc6 xh6) = true := by decide +kernel
theorem xcw_6 : Cond.code (xNm 6).1 (xNm 6).2.1 (xNm 6).2.2.1 (xNm 6).2.2.2.1 ∈ wsG := List.mem_filter.mpr ⟨xtb_in (k := 1) (List.mem_of_getElem? (i := 110) rfl), rfl⟩
theorem xb_7 : xbody 7 21 (xgd 21 xc7 xh7) = true := by decide +kernel
theorem xcw_7 : Cond.code (xNm 7).1 (xNm 7).2.1 (xNm 7).2.2.1 (xNm 7).2.2.2.1 ∈ wsG := List.mem_filter.mpr ⟨xtb_in (k := 1) (List.mem_of_getElem? (i := 152) rfl), rfl⟩
theorem xb_8 : xbody 8 42 (xgd 42 xc8 xh8) = true := by decide +kernel
theorem xcw_8 : Cond.code (xNm 8).1 (xNm 8).2.1 (xNm 8).2.2.1 (xNm 8).2.2.2.1 ∈ wsG := List.mem_filter.mpr ⟨xtb_in (k := 1) (List.mem_of_getElem? (i := 167) rfl), rfl⟩
theorem xb_9 : xbody 9 72 (xgd 72 xc9 xh9) = true := by decide +kernel
theorem xcw_9 : Cond.code (xNm 9).1 (xNm 9).2.1 (xNm 9).2.2.1 (xNm 9).2.2.2.1 ∈ wsG := List.mem_filter.mpr ⟨xtb_in (k := 1) (List.mem_of_getElem? (i := 37) rfl), rfl⟩
theorem xb_10 : xbody 10 54 (xgd 54 xc10 xh10) = true := by decide +kernel
theorem xcw_10 : Cond.code (xNm 10).1 (xNm 10).2.1 (xNm 10).2.2.1 (xNm 10).2.2.2.1 ∈ wsG := List.mem_filter.mpr ⟨xtb_in (k := 1) (List.mem_of_getElem? (i := 228) rfl), rfl⟩
theorem xb_11 : xbody 11 39 (xgd 39 xc11 xh11) = true := by decide +kernel
theorem xcw_11 : Cond.code (xNm 11).1 (xNm 11).2.1 (xNm 11).2.2.1 (xNm 11).2.2.2.1 ∈ wsG := List.mem_filter.mpr ⟨xtb_in (k := 2) (List.mem_of_getElem? (i := 33) rfl), rfl⟩
theorem xb_12 : xbody 12 62 (xgd 62 xc12 xh12) = true := by decide +kernel
theorem xcw_12 : Cond.code (xNm 12).1 (xNm 12).2.1 (xNm 12).2.2.1 (xNm 12).2.2.2.1 ∈ wsG := List.mem_filter.mpr ⟨xtb_in (k := 2) (List.mem_of_getElem? (i := 57) rfl), rfl⟩
theorem xb_13 : xbody 13 39 (xgd 39 xc13 xh13) = true := by decide +kernel
theorem xcw_13 : Cond.code (xNm 13).1 (xNm 13).2.1 (xNm 13).2.2.1 (xNm 13).2.2.2.1 ∈ wsG := List.mem_filter.mpr ⟨xtb_in (k := 2) (List.mem_of_getElem? (i := 119) rfl), rfl⟩
theorem xb_14 : xbody 14 21 (xgd 21 xc14 xh14) = true := by decide +kernel
theorem xcw_14 : Cond.code (xNm 14).1 (xNm 14).2.1 (xNm 14).2.2.1 (xNm 14).2.2.2.1 ∈ wsG := List.mem_filter.mpr ⟨xtb_in (k := 2) (List.mem_of_getElem? (i := 153) rfl), rfl⟩
theorem xb_15 : xbody 15 105 (xgd 105 xc15 xh15) = true := by decide +kernel
theorem xcw_15 : Cond.code (xNm 15).1 (xNm 15).2.1 (xNm 15).2.2.1 (xNm 15).2.2.2.1 ∈ wsG := List.mem_filter.mpr ⟨xtb_in (k := 1) (List.mem_of_getElem? (i := 26) rfl), rfl⟩
theorem xb_16 : xbody 16 47 (xgd 47 xc16 xh16) = true := by decide +kernel
theorem xcw_16 : Cond.code (xNm 16).1 (xNm 16).2.1 (xNm 16).2.2.1 (xNm 16).2.2.2.1 ∈ wsG := List.mem_filter.mpr ⟨xtb_in (k := 5) (List.mem_of_getElem? (i := 197) rfl), rfl⟩
theorem xb_17 : xbody 17 428 (xgd 428 xc17 xh17) = true := by decide +kernel
theorem xcw_17 : Cond.code (xNm 17).1 (xNm 17).2.1 (xNm 17).2.2.1 (xNm 17).2.2.2.1 ∈ wsG := List.mem_filter.mpr ⟨xtb_in (k := 5) (List.mem_of_getElem? (i := 192) rfl), rfl⟩
theorem xb_18 : xbody 18 18 (xgd 18 xc18 xh18) = true := by decide +kernel
theorem xcw_18 : Cond.code (xNm 18).1 (xNm 18).2.1 (xNm 18).2.2.1 (xNm 18).2.2.2.1 ∈ wsG := List.mem_filter.mpr ⟨xtb_in (k := 2) (List.mem_of_getElem? (i := 204) rfl), rfl⟩
theorem xb_19 : xbody 19 16 (xgd 16 xc19 xh19) = true := by decide +kernel
theorem xcw_19 : Cond.code (xNm 19).1 (xNm 19).2.1 (xNm 19).2.2.1 (xNm 19).2.2.2.1 ∈ wsG := List.mem_filter.mpr ⟨xtb_in (k := 2) (List.mem_of_getElem? (i := 210) rfl), rfl⟩
theorem xb_20 : xbody 20 75 (xgd 75 xc20 xh20) = true := by decide +kernel
theorem xcw_20 : Cond.code (xNm 20).1 (xNm 20).2.1 (xNm 20).2.2.1 (xNm 20).2.2.2.1 ∈ wsG := List.mem_filter.mpr ⟨xtb_in (k := 2) (List.mem_of_getElem? (i := 207) rfl), rfl⟩
theorem xb_21 : xbody 21 92 (xgd 92 xc21 xh21) = true := by decide +kernel
theorem xcw_21 : Cond.code (xNm 21).1 (xNm 21).2.1 (xNm 21).2.2.1 (xNm 21).2.2.2.1 ∈ wsG := List.mem_filter.mpr ⟨xtb_in (k := 2) (List.mem_of_getElem? (i := 214) rfl), rfl⟩
theorem xb_22 : xbody 22 56 (xgd 56 xc22 xh22) = true := by decide +kernel
theorem xcw_22 : Cond.code (xNm 22).1 (xNm 22).2.1 (xNm 22).2.2.1 (xNm 22).2.2.2.1 ∈ wsG := List.mem_filter.mpr ⟨xtb_in (k := 2) (List.mem_of_getElem? (i := 200) rfl), rfl⟩
theorem xb_23 : xbody 23 16 (xgd 16 xc23 xh23) = true := by decide +kernel
theorem xcw_23 : Cond.code (xNm 23).1 (xNm 23).2.1 (xNm 23).2.2.1 (xNm 23).2.2.2.1 ∈ wsG := List.mem_filter.mpr ⟨xtb_in (k := 6) (List.mem_of_getElem? (i := 123) rfl), rfl⟩
theorem xb_24 : xbody 24 12 (xgd 12 xc24 xh24) = true := by decide +kernel
theorem xcw_24 : Cond.code (xNm 24).1 (xNm 24).2.1 (xNm 24).2.2.1 (xNm 24).2.2.2.1 ∈ wsG := List.mem_filter.mpr ⟨xtb_in (k := 6) (List.mem_of_getElem? (i := 120) rfl), rfl⟩
theorem xb_25 : xbody 25 205 (xgd 205 xc25 xh25) = true := by decide +kernel
theorem xcw_25 : Cond.code (xNm 25).1 (xNm 25).2.1 (xNm 25).2.2.1 (xNm 25).2.2.2.1 ∈ wsG := List.mem_filter.mpr ⟨xtb_in (k := 6) (List.mem_of_getElem? (i := 116) rfl), rfl⟩
theorem xb_26 : xbody 26 42 (xgd 42 xc26 xh26) = true := by decide +kernel
theorem xcw_26 : Cond.code (xNm 26).1 (xNm 26).2.1 (xNm 26).2.2.1 (xNm 26).2.2.2.1 ∈ wsG := List.mem_filter.mpr ⟨xtb_in (k := 2) (List.mem_of_getElem? (i := 223) rfl), rfl⟩
theorem xb_27 : xbody 27 51 (xgd 51 xc27 xh27) = true := by decide +kernel
theorem xcw_27 : Cond.code (xNm 27).1 (xNm 27).2.1 (xNm 27).2.2.1 (xNm 27).2.2.2.1 ∈ wsG := List.mem_filter.mpr ⟨xtb_in (k := 2) (List.mem_of_getElem? (i := 219) rfl), rfl⟩
theorem xb_28 : xbody 28 67 (xgd 67 xc28 xh28) = true := by decide +kernel
theorem xcw_28 : Cond.code (xNm 28).1 (xNm 28).2.1 (xNm 28).2.2.1 (xNm 28).2.2.2.1 ∈ wsG := List.mem_filter.mpr ⟨xtb_in (k := 6) (List.mem_of_getElem? (i := 127) rfl), rfl⟩
theorem xb_29 : xbody 29 31 (xgd 31 xc29 xh29) = true := by decide +kernel
theorem xcw_29 : Cond.code (xNm 29).1 (xNm 29).2.1 (xNm 29).2.2.1 (xNm 29).2.2.2.1 ∈ wsG := List.mem_filter.mpr ⟨xtb_in (k := 2) (List.mem_of_getElem? (i := 227) rfl), rfl⟩
theorem xb_30 : xbody 30 30 (xgd 30 xc30 xh30) = true := by decide +kernel
theorem xcw_30 : Cond.code (xNm 30).1 (xNm 30).2.1 (xNm 30).2.2.1 (xNm 30).2.2.2.1 ∈ wsG := List.mem_filter.mpr ⟨xtb_in (k := 6) (List.mem_of_getElem? (i := 131) rfl), rfl⟩
theorem xb_31 : xbody 31 15 (xgd 15 xc31 xh31) = true := by decide +kernel
theorem xcw_31 : Cond.code (xNm 31).1 (xNm 31).2.1 (xNm 31).2.2.1 (xNm 31).2.2.2.1 ∈ wsG := List.mem_filter.mpr ⟨xtb_in (k := 2) (List.mem_of_getElem? (i := 234) rfl), rfl⟩
theorem xb_32 : xbody 32 47 (xgd 47 xc32 xh32) = true := by decide +kernel
theorem xcw_32 : Cond.code (xNm 32).1 (xNm 32).2.1 (xNm 32).2.2.1 (xNm 32).2.2.2.1 ∈ wsG := List.mem_filter.mpr ⟨xtb_in (k := 3) (List.mem_of_getElem? (i := 2) rfl), rfl⟩
theorem xb_33 : xbody 33 11 (xgd 11 xc33 xh33) = true := by decide +kernel
theorem xcw_33 : Cond.code (xNm 33).1 (xNm 33).2.1 (xNm 33).2.2.1 (xNm 33).2.2.2.1 ∈ wsG := List.mem_filter.mpr ⟨xtb_in (k := 3) (List.mem_of_getElem? (i := 13) rfl), rfl⟩
theorem xb_34 : xbody 34 44 (xgd 44 xc34 xh34) = true := by decide +kernel
theorem xcw_34 : Cond.code (xNm 34).1 (xNm 34).2.1 (xNm 34).2.2.1 (xNm 34).2.2.2.1 ∈ wsG := List.mem_filter.mpr ⟨xtb_in (k := 3) (List.mem_of_getElem? (i := 10) rfl), rfl⟩
theorem xb_35 : xbody 35 54 (xgd 54 xc35 xh35) = true := by decide +kernel
theorem xcw_35 : Cond.code (xNm 35).1 (xNm 35).2.1 (xNm 35).2.2.1 (xNm 35).2.2.2.1 ∈ wsG := List.mem_filter.mpr ⟨xtb_in (k := 3) (List.mem_of_getElem? (i := 6) rfl), rfl⟩
theorem xb_36 : xbody 36 39 (xgd 39 xc36 xh36) = true := by decide +kernel
theorem xcw_36 : Cond.code (xNm 36).1 (xNm 36).2.1 (xNm 36).2.2.1 (xNm 36).2.2.2.1 ∈ wsG := List.mem_filter.mpr ⟨xtb_in (k := 3) (List.mem_of_getElem? (i := 16) rfl), rfl⟩
theorem xb_37 : xbody 37 153 (xgd 153 xc37 xh37) = true := by decide +kernel
theorem xcw_37 : Cond.code (xNm 37).1 (xNm 37).2.1 (xNm 37).2.2.1 (xNm 37).2.2.2.1 ∈ wsG := List.mem_filter.mpr ⟨xtb_in (k := 2) (List.mem_of_getElem? (i := 238) rfl), rfl⟩
theorem xb_38 : xbody 38 74 (xgd 74 xc38 xh38) = true := by decide +kernel
theorem xcw_38 : Cond.code (xNm 38).1 (xNm 38).2.1 (xNm 38).2.2.1 (xNm 38).2.2.2.1 ∈ wsG := List.mem_filter.mpr ⟨xtb_in (k := 2) (List.mem_of_getElem? (i := 231) rfl), rfl⟩
theorem xb_39 : xbody 39 7 (xgd 7 xc39 xh39) = true := by decide +kernel
theorem xcw_39 : Cond.code (xNm 39).1 (xNm 39).2.1 (xNm 39).2.2.1 (xNm 39).2.2.2.1 ∈ wsG := List.mem_filter.mpr ⟨xtb_in (k := 6) (List.mem_of_getElem? (i := 138) rfl), rfl⟩
theorem xb_40 : xbody 40 11 (xgd 11 xc40 xh40) = true := by decide +kernel
theorem xcw_40 : Cond.code (xNm 40).1 (xNm 40).2.1 (xNm 40).2.2.1 (xNm 40).2.2.2.1 ∈ wsG := List.mem_filter.mpr ⟨xtb_in (k := 6) (List.mem_of_getElem? (i := 153) rfl), rfl⟩
theorem xb_41 : xbody 41 34 (xgd 34 xc41 xh41) = true := by decide +kernel
theorem xcw_41 : Cond.code (xNm 41).1 (xNm 41).2.1 (xNm 41).2.2.1 (xNm 41).2.2.2.1 ∈ wsG := List.mem_filter.mpr ⟨xtb_in (k := 6) (List.mem_of_getElem? (i := 150) rfl), rfl⟩
theorem xb_42 : xbody 42 60 (xgd 60 xc42 xh42) = true := by decide +kernel
theorem xcw_42 : Cond.code (xNm 42).1 (xNm 42).2.1 (xNm 42).2.2.1 (xNm 42).2.2.2.1 ∈ wsG := List.mem_filter.mpr ⟨xtb_in (k := 6) (List.mem_of_getElem? (i := 146) rfl), rfl⟩
theorem xb_43 : xbody 43 176 (xgd 176 xc43 xh43) = true := by decide +kernel
theorem xcw_43 : Cond.code (xNm 43).1 (xNm 43).2.1 (xNm 43).2.2.1 (xNm 43).2.2.2.1 ∈ wsG := List.mem_filter.mpr ⟨xtb_in (k := 6) (List.mem_of_getElem? (i := 142) rfl), rfl⟩
theorem xb_44 : xbody 44 49 (xgd 49 xc44 xh44) = true := by decide +kernel
theorem xcw_44 : Cond.code (xNm 44).1 (xNm 44).2.1 (xNm 44).2.2.1 (xNm 44).2.2.2.1 ∈ wsG := List.mem_filter.mpr ⟨xtb_in (k := 6) (List.mem_of_getElem? (i := 135) rfl), rfl⟩
theorem xb_45 : xbody 45 37 (xgd 37 xc45 xh45) = true := by decide +kernel
theorem xcw_45 : Cond.code (xNm 45).1 (xNm 45).2.1 (xNm 45).2.2.1 (xNm 45).2.2.2.1 ∈ wsG := List.mem_filter.mpr ⟨xtb_in (k := 3) (List.mem_of_getElem? (i := 28) rfl), rfl⟩
theorem xb_46 : xbody 46 113 (xgd 113 xc46 xh46) = true := by decide +kernel
theorem xcw_46 : Cond.code (xNm 46).1 (xNm 46).2.1 (xNm 46).2.2.1 (xNm 46).2.2.2.1 ∈ wsG := List.mem_filter.mpr ⟨xtb_in (k := 3) (List.mem_of_getElem? (i := 24) rfl), rfl⟩
theorem xb_47 : xbody 47 37 (xgd 37 xc47 xh47) = true := by decide +kernel
theorem xcw_47 : Cond.code (xNm 47).1 (xNm 47).2.1 (xNm 47).2.2.1 (xNm 47).2.2.2.1 ∈ wsG := List.mem_filter.mpr ⟨xtb_in (k := 3) (List.mem_of_getElem? (i := 20) rfl), rfl⟩
theorem xb_48 : xbody 48 183 (xgd 183 xc48 xh48) = true := by decide +kernel
theorem xcw_48 : Cond.code (xNm 48).1 (xNm 48).2.1 (xNm 48).2.2.1 (xNm 48).2.2.2.1 ∈ wsG := List.mem_filter.mpr ⟨xtb_in (k := 6) (List.mem_of_getElem? (i := 157) rfl), rfl⟩
theorem xb_49 : xbody 49 18 (xgd 18 xc49 xh49) = true := by decide +kernel
theorem xcw_49 : Cond.code (xNm 49).1 (xNm 49).2.1 (xNm 49).2.2.1 (xNm 49).2.2.2.1 ∈ wsG := List.mem_filter.mpr ⟨xtb_in (k := 3) (List.mem_of_getElem? (i := 44) rfl), rfl⟩
theorem xb_50 : xbody 50 27 (xgd 27 xc50 xh50) = true := by decide +kernel
theorem xcw_50 : Cond.code (xNm 50).1 (xNm 50).2.1 (xNm 50).2.2.1 (xNm 50).2.2.2.1 ∈ wsG := List.mem_filter.mpr ⟨xtb_in (k := 3) (List.mem_of_getElem? (i := 40) rfl), rfl⟩
theorem xb_51 : xbody 51 46 (xgd 46 xc51 xh51) = true := by decide +kernel
theorem xcw_51 : Cond.code (xNm 51).1 (xNm 51).2.1 (xNm 51).2.2.1 (xNm 51).2.2.2.1 ∈ wsG := List.mem_filter.mpr ⟨xtb_in (k := 3) (List.mem_of_getElem? (i := 36) rfl), rfl⟩
theorem xb_52 : xbody 52 100 (xgd 100 xc52 xh52) = true := by decide +kernel
theorem xcw_52 : Cond.code (xNm 52).1 (xNm 52).2.1 (xNm 52).2.2.1 (xNm 52).2.2.2.1 ∈ wsG := List.mem_filter.mpr ⟨xtb_in (k := 3) (List.mem_of_getElem? (i := 32) rfl), rfl⟩
theorem xb_53 : xbody 53 174 (xgd 174 xc53 xh53) = true := by decide +kernel
theorem xcw_53 : Cond.code (xNm 53).1 (xNm 53).2.1 (xNm 53).2.2.1 (xNm 53).2.2.2.1 ∈ wsG := List.mem_filter.mpr ⟨xtb_in (k := 6) (List.mem_of_getElem? (i := 161) rfl), rfl⟩
theorem xb_54 : xbody 54 24 (xgd 24 xc54 xh54) = true := by decide +kernel
theorem xcw_54 : Cond.code (xNm 54).1 (xNm 54).2.1 (xNm 54).2.2.1 (xNm 54).2.2.2.1 ∈ wsG := List.mem_filter.mpr ⟨xtb_in (k := 3) (List.mem_of_getElem? (i := 50) rfl), rfl⟩
theorem xb_55 : xbody 55 16 (xgd 16 xc55 xh55) = true := by decide +kernel
theorem xcw_55 : Cond.code (xNm 55).1 (xNm 55).2.1 (xNm 55).2.2.1 (xNm 55).2.2.2.1 ∈ wsG := List.mem_filter.mpr ⟨xtb_in (k := 6) (List.mem_of_getElem? (i := 165) rfl), rfl⟩
theorem xb_56 : xbody 56 102 (xgd 102 xc56 xh56) = true := by decide +kernel
theorem xcw_56 : Cond.code (xNm 56).1 (xNm 56).2.1 (xNm 56).2.2.1 (xNm 56).2.2.2.1 ∈ wsG := List.mem_filter.mpr ⟨xtb_in (k := 3) (List.mem_of_getElem? (i := 54) rfl), rfl⟩
theorem xb_57 : xbody 57 101 (xgd 101 xc57 xh57) = true := by decide +kernel
theorem xcw_57 : Cond.code (xNm 57).1 (xNm 57).2.1 (xNm 57).2.2.1 (xNm 57).2.2.2.1 ∈ wsG := List.mem_filter.mpr ⟨xtb_in (k := 6) (List.mem_of_getElem? (i := 169) rfl), rfl⟩
theorem xb_58 : xbody 58 13 (xgd 13 xc58 xh58) = true := by decide +kernel
theorem xcw_58 : Cond.code (xNm 58).1 (xNm 58).2.1 (xNm 58).2.2.1 (xNm 58).2.2.2.1 ∈ wsG := List.mem_filter.mpr ⟨xtb_in (k := 3) (List.mem_of_getElem? (i := 71) rfl), rfl⟩
theorem xb_59 : xbody 59 99 (xgd 99 xc59 xh59) = true := by decide +kernel
theorem xcw_59 : Cond.code (xNm 59).1 (xNm 59).2.1 (xNm 59).2.2.1 (xNm 59).2.2.2.1 ∈ wsG := List.mem_filter.mpr ⟨xtb_in (k := 3) (List.mem_of_getElem? (i := 67) rfl), rfl⟩
theorem xb_60 : xbody 60 136 (xgd 136 xc60 xh60) = true := by decide +kernel
theorem xcw_60 : Cond.code (xNm 60).1 (xNm 60).2.1 (xNm 60).2.2.1 (xNm 60).2.2.2.1 ∈ wsG := List.mem_filter.mpr ⟨xtb_in (k := 3) (List.mem_of_getElem? (i := 63) rfl), rfl⟩
theorem xb_61 : xbody 61 42 (xgd 42 xc61 xh61) = true := by decide +kernel
theorem xcw_61 : Cond.code (xNm 61).1 (xNm 61).2.1 (xNm 61).2.2.1 (xNm 61).2.2.2.1 ∈ wsG := List.mem_filter.mpr ⟨xtb_in (k := 3) (List.mem_of_getElem? (i := 77) rfl), rfl⟩
theorem xb_62 : xbody 62 51 (xgd 51 xc62 xh62) = true := by decide +kernel
theorem xcw_62 : Cond.code (xNm 62).1 (xNm 62).2.1 (xNm 62).2.2.1 (xNm 62).2.2.2.1 ∈ wsG := List.mem_filter.mpr ⟨xtb_in (k := 3) (List.mem_of_getElem? (i := 58) rfl), rfl⟩
theorem xb_63 : xbody 63 14 (xgd 14 xc63 xh63) = true := by decide +kernel
theorem xcw_63 : Cond.code (xNm 63).1 (xNm 63).2.1 (xNm 63).2.2.1 (xNm 63).2.2.2.1 ∈ wsG := List.mem_filter.mpr ⟨xtb_in (k := 6) (List.mem_of_getElem? (i := 177) rfl), rfl⟩
theorem xb_64 : xbody 64 35 (xgd 35 xc64 xh64) = true := by decide +kernel
theorem xcw_64 : Cond.code (xNm 64).1 (xNm 64).2.1 (xNm 64).2.2.1 (xNm 64).2.2.2.1 ∈ wsG := List.mem_filter.mpr ⟨xtb_in (k := 6) (List.mem_of_getElem? (i := 185) rfl), rfl⟩
theorem xb_65 : xbody 65 114 (xgd 114 xc65 xh65) = true := by decide +kernel
theorem xcw_65 : Cond.code (xNm 65).1 (xNm 65).2.1 (xNm 65).2.2.1 (xNm 65).2.2.2.1 ∈ wsG := List.mem_filter.mpr ⟨xtb_in (k := 6) (List.mem_of_getElem? (i := 189) rfl), rfl⟩
theorem xb_66 : xbody 66 46 (xgd 46 xc66 xh66) = true := by decide +kernel
theorem xcw_66 : Cond.code (xNm 66).1 (xNm 66).2.1 (xNm 66).2.2.1 (xNm 66).2.2.2.1 ∈ wsG := List.mem_filter.mpr ⟨xtb_in (k := 6) (List.mem_of_getElem? (i := 181) rfl), rfl⟩
theorem xb_67 : xbody 67 27 (xgd 27 xc67 xh67) = true := by decide +kernel
theorem xcw_67 : Cond.code (xNm 67).1 (xNm 67).2.1 (xNm 67).2.2.1 (xNm 67).2.2.2.1 ∈ wsG := List.mem_filter.mpr ⟨xtb_in (k := 6) (List.mem_of_getElem? (i := 173) rfl), rfl⟩
theorem xb_68 : xbody 68 26 (xgd 26 xc68 xh68) = true := by decide +kernel
theorem xcw_68 : Cond.code (xNm 68).1 (xNm 68).2.1 (xNm 68).2.2.1 (xNm 68).2.2.2.1 ∈ wsG := List.mem_filter.mpr ⟨xtb_in (k := 3) (List.mem_of_getElem? (i := 90) rfl), rfl⟩
theorem xb_69 : xbody 69 39 (xgd 39 xc69 xh69) = true := by decide +kernel
theorem xcw_69 : Cond.code (xNm 69).1 (xNm 69).2.1 (xNm 69).2.2.1 (xNm 69).2.2.2.1 ∈ wsG := List.mem_filter.mpr ⟨xtb_in (k := 3) (List.mem_of_getElem? (i := 86) rfl), rfl⟩
