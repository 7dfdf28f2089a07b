/-! THE BODIES, checked by the kernel: methods 70 to 139 -/
theorem xb_70 : xbody 70 61 (xgd 61 xc70 xh70) = true := by decide +kernel
theorem xcw_70 : Cond.code (xNm 70).1 (xNm 70).2.1 (xNm 70).2.2.1 (xNm 70).2.2.2.1 ∈ wsG := List.mem_filter.mpr ⟨xtb_in (k := 3) (List.mem_of_getElem? (i := 94) rfl), rfl⟩
theorem xb_71 : xbody 71 46 (xgd 46 xc71 xh71) = true := by decide +kernel
theorem xcw_71 : Cond.code (xNm 71).1 (xNm 71).2.1 (xNm 71).2.2.1 (xNm 71).2.2.2.1 ∈ wsG := List.mem_filter.mpr ⟨xtb_in (k := 3) (List.mem_of_getElem? (i := 101) rfl), rfl⟩
theorem xb_72 : xbody 72 61 (xgd 61 xc72 xh72) = true := by decide +kernel
theorem xcw_72 : Cond.code (xNm 72).1 (xNm 72).2.1 (xNm 72).2.2.1 (xNm 72).2.2.2.1 ∈ wsG := List.mem_filter.mpr ⟨xtb_in (k := 3) (List.mem_of_getElem? (i := 82) rfl), rfl⟩
theorem xb_73 : xbody 73 29 (xgd 29 xc73 xh73) = true := by decide +kernel
theorem xcw_73 : Cond.code (xNm 73).1 (xNm 73).2.1 (xNm 73).2.2.1 (xNm 73).2.2.2.1 ∈ wsG := List.mem_filter.mpr ⟨xtb_in (k := 6) (List.mem_of_getElem? (i := 199) rfl), rfl⟩
theorem xb_74 : xbody 74 67 (xgd 67 xc74 xh74) = true := by decide +kernel
theorem xcw_74 : Cond.code (xNm 74).1 (xNm 74).2.1 (xNm 74).2.2.1 (xNm 74).2.2.2.1 ∈ wsG := List.mem_filter.mpr ⟨xtb_in (k := 6) (List.mem_of_getElem? (i := 195) rfl), rfl⟩
theorem xb_75 : xbody 75 87 (xgd 87 xc75 xh75) = true := by decide +kernel
theorem xcw_75 : Cond.code (xNm 75).1 (xNm 75).2.1 (xNm 75).2.2.1 (xNm 75).2.2.2.1 ∈ wsG := List.mem_filter.mpr ⟨xtb_in (k := 3) (List.mem_of_getElem? (i := 109) rfl), rfl⟩
theorem xb_76 : xbody 76 51 (xgd 51 xc76 xh76) = true := by decide +kernel
theorem xcw_76 : Cond.code (xNm 76).1 (xNm 76).2.1 (xNm 76).2.2.1 (xNm 76).2.2.2.1 ∈ wsG := List.mem_filter.mpr ⟨xtb_in (k := 3) (List.mem_of_getElem? (i := 105) rfl), rfl⟩
theorem xb_77 : xbody 77 108 (xgd 108 xc77 xh77) = true := by decide +kernel
theorem xcw_77 : Cond.code (xNm 77).1 (xNm 77).2.1 (xNm 77).2.2.1 (xNm 77).2.2.2.1 ∈ wsG := List.mem_filter.mpr ⟨xtb_in (k := 6) (List.mem_of_getElem? (i := 203) rfl), rfl⟩
theorem xb_78 : xbody 78 68 (xgd 68 xc78 xh78) = true := by decide +kernel
theorem xcw_78 : Cond.code (xNm 78).1 (xNm 78).2.1 (xNm 78).2.2.1 (xNm 78).2.2.2.1 ∈ wsG := List.mem_filter.mpr ⟨xtb_in (k := 3) (List.mem_of_getElem? (i := 121) rfl), rfl⟩
theorem xb_79 : xbody 79 23 (xgd 23 xc79 xh79) = true := by decide +kernel
theorem xcw_79 : Cond.code (xNm 79).1 (xNm 79).2.1 (xNm 79).2.2.1 (xNm 79).2.2.2.1 ∈ wsG := List.mem_filter.mpr ⟨xtb_in (k := 3) (List.mem_of_getElem? (i := 134) rfl), rfl⟩
theorem xb_80 : xbody 80 30 (xgd 30 xc80 xh80) = true := by decide +kernel
theorem xcw_80 : Cond.code (xNm 80).1 (xNm 80).2.1 (xNm 80).2.2.1 (xNm 80).2.2.2.1 ∈ wsG := List.mem_filter.mpr ⟨xtb_in (k := 3) (List.mem_of_getElem? (i := 139) rfl), rfl⟩
theorem xb_81 : xbody 81 164 (xgd 164 xc81 xh81) = true := by decide +kernel
theorem xcw_81 : Cond.code (xNm 81).1 (xNm 81).2.1 (xNm 81).2.2.1 (xNm 81).2.2.2.1 ∈ wsG := List.mem_filter.mpr ⟨xtb_in (k := 3) (List.mem_of_getElem? (i := 129) rfl), rfl⟩
theorem xb_82 : xbody 82 85 (xgd 85 xc82 xh82) = true := by decide +kernel
theorem xcw_82 : Cond.code (xNm 82).1 (xNm 82).2.1 (xNm 82).2.2.1 (xNm 82).2.2.2.1 ∈ wsG := List.mem_filter.mpr ⟨xtb_in (k := 3) (List.mem_of_getElem? (i := 125) rfl), rfl⟩
theorem xb_83 : xbody 83 141 (xgd 141 xc83 xh83) = true := by decide +kernel
theorem xcw_83 : Cond.code (xNm 83).1 (xNm 83).2.1 (xNm 83).2.2.1 (xNm 83).2.2.2.1 ∈ wsG := List.mem_filter.mpr ⟨xtb_in (k := 3) (List.mem_of_getElem? (i := 117) rfl), rfl⟩
theorem xb_84 : xbody 84 61 (xgd 61 xc84 xh84) = true := by decide +kernel
theorem xcw_84 : Cond.code (xNm 84).1 (xNm 84).2.1 (xNm 84).2.2.1 (xNm 84).2.2.2.1 ∈ wsG := List.mem_filter.mpr ⟨xtb_in (k := 3) (List.mem_of_getElem? (i := 113) rfl), rfl⟩
theorem xb_85 : xbody 85 86 (xgd 86 xc85 xh85) = true := by decide +kernel
theorem xcw_85 : Cond.code (xNm 85).1 (xNm 85).2.1 (xNm 85).2.2.1 (xNm 85).2.2.2.1 ∈ wsG := List.mem_filter.mpr ⟨xtb_in (k := 6) (List.mem_of_getElem? (i := 211) rfl), rfl⟩
theorem xb_86 : xbody 86 296 (xgd 296 xc86 xh86) = true := by decide +kernel
theorem xcw_86 : Cond.code (xNm 86).1 (xNm 86).2.1 (xNm 86).2.2.1 (xNm 86).2.2.2.1 ∈ wsG := List.mem_filter.mpr ⟨xtb_in (k := 6) (List.mem_of_getElem? (i := 207) rfl), rfl⟩
theorem xb_87 : xbody 87 29 (xgd 29 xc87 xh87) = true := by decide +kernel
theorem xcw_87 : Cond.code (xNm 87).1 (xNm 87).2.1 (xNm 87).2.2.1 (xNm 87).2.2.2.1 ∈ wsG := List.mem_filter.mpr ⟨xtb_in (k := 3) (List.mem_of_getElem? (i := 146) rfl), rfl⟩
theorem xb_88 : xbody 88 19 (xgd 19 xc88 xh88) = true := by decide +kernel
theorem xcw_88 : Cond.code (xNm 88).1 (xNm 88).2.1 (xNm 88).2.2.1 (xNm 88).2.2.2.1 ∈ wsG := List.mem_filter.mpr ⟨xtb_in (k := 6) (List.mem_of_getElem? (i := 215) rfl), rfl⟩
theorem xb_89 : xbody 89 78 (xgd 78 xc89 xh89) = true := by decide +kernel
theorem xcw_89 : Cond.code (xNm 89).1 (xNm 89).2.1 (xNm 89).2.2.1 (xNm 89).2.2.2.1 ∈ wsG := List.mem_filter.mpr ⟨xtb_in (k := 3) (List.mem_of_getElem? (i := 159) rfl), rfl⟩
theorem xb_90 : xbody 90 209 (xgd 209 xc90 xh90) = true := by decide +kernel
theorem xcw_90 : Cond.code (xNm 90).1 (xNm 90).2.1 (xNm 90).2.2.1 (xNm 90).2.2.2.1 ∈ wsG := List.mem_filter.mpr ⟨xtb_in (k := 3) (List.mem_of_getElem? (i := 154) rfl), rfl⟩
theorem xb_91 : xbody 91 34 (xgd 34 xc91 xh91) = true := by decide +kernel
theorem xcw_91 : Cond.code (xNm 91).1 (xNm 91).2.1 (xNm 91).2.2.1 (xNm 91).2.2.2.1 ∈ wsG := List.mem_filter.mpr ⟨xtb_in (k := 3) (List.mem_of_getElem? (i := 163) rfl), rfl⟩
theorem xb_92 : xbody 92 55 (xgd 55 xc92 xh92) = true := by decide +kernel
theorem xcw_92 : Cond.code (xNm 92).1 (xNm 92).2.1 (xNm 92).2.2.1 (xNm 92).2.2.2.1 ∈ wsG := List.mem_filter.mpr ⟨xtb_in (k := 3) (List.mem_of_getElem? (i := 150) rfl), rfl⟩
theorem xb_93 : xbody 93 16 (xgd 16 xc93 xh93) = true := by decide +kernel
theorem xcw_93 : Cond.code (xNm 93).1 (xNm 93).2.1 (xNm 93).2.2.1 (xNm 93).2.2.2.1 ∈ wsG := List.mem_filter.mpr ⟨xtb_in (k := 6) (List.mem_of_getElem? (i := 227) rfl), rfl⟩
theorem xb_94 : xbody 94 175 (xgd 175 xc94 xh94) = true := by decide +kernel
theorem xcw_94 : Cond.code (xNm 94).1 (xNm 94).2.1 (xNm 94).2.2.1 (xNm 94).2.2.2.1 ∈ wsG := List.mem_filter.mpr ⟨xtb_in (k := 6) (List.mem_of_getElem? (i := 223) rfl), rfl⟩
theorem xb_95 : xbody 95 35 (xgd 35 xc95 xh95) = true := by decide +kernel
theorem xcw_95 : Cond.code (xNm 95).1 (xNm 95).2.1 (xNm 95).2.2.1 (xNm 95).2.2.2.1 ∈ wsG := List.mem_filter.mpr ⟨xtb_in (k := 6) (List.mem_of_getElem? (i := 219) rfl), rfl⟩
theorem xb_96 : xbody 96 58 (xgd 58 xc96 xh96) = true := by decide +kernel
theorem xcw_96 : Cond.code (xNm 96).1 (xNm 96).2.1 (xNm 96).2.2.1 (xNm 96).2.2.2.1 ∈ wsG := List.mem_filter.mpr ⟨xtb_in (k := 3) (List.mem_of_getElem? (i := 186) rfl), rfl⟩
theorem xb_97 : xbody 97 66 (xgd 66 xc97 xh97) = true := by decide +kernel
theorem xcw_97 : Cond.code (xNm 97).1 (xNm 97).2.1 (xNm 97).2.2.1 (xNm 97).2.2.2.1 ∈ wsG := List.mem_filter.mpr ⟨xtb_in (k := 3) (List.mem_of_getElem? (i := 182) rfl), rfl⟩
theorem xb_98 : xbody 98 18 (xgd 18 xc98 xh98) = true := by decide +kernel
theorem xcw_98 : Cond.code (xNm 98).1 (xNm 98).2.1 (xNm 98).2.2.1 (xNm 98).2.2.2.1 ∈ wsG := List.mem_filter.mpr ⟨xtb_in (k := 3) (List.mem_of_getElem? (i := 178) rfl), rfl⟩
theorem xb_99 : xbody 99 236 (xgd 236 xc99 xh99) = true := by decide +kernel
theorem xcw_99 : Cond.code (xNm 99).1 (xNm 99).2.1 (xNm 99).2.2.1 (xNm 99).2.2.2.1 ∈ wsG := List.mem_filter.mpr ⟨xtb_in (k := 3) (List.mem_of_getElem? (i := 172) rfl), rfl⟩
theorem xb_100 : xbody 100 91 (xgd 91 xc100 xh100) = true := by decide +kernel
theorem xcw_100 : Cond.code (xNm 100).1 (xNm 100).2.1 (xNm 100).2.2.1 (xNm 100).2.2.2.1 ∈ wsG := List.mem_filter.mpr ⟨xtb_in (k := 3) (List.mem_of_getElem? (i := 168) rfl), rfl⟩
theorem xb_101 : xbody 101 22 (xgd 22 xc101 xh101) = true := by decide +kernel
theorem xcw_101 : Cond.code (xNm 101).1 (xNm 101).2.1 (xNm 101).2.2.1 (xNm 101).2.2.2.1 ∈ wsG := List.mem_filter.mpr ⟨xtb_in (k := 6) (List.mem_of_getElem? (i := 239) rfl), rfl⟩
theorem xb_102 : xbody 102 55 (xgd 55 xc102 xh102) = true := by decide +kernel
theorem xcw_102 : Cond.code (xNm 102).1 (xNm 102).2.1 (xNm 102).2.2.1 (xNm 102).2.2.2.1 ∈ wsG := List.mem_filter.mpr ⟨xtb_in (k := 7) (List.mem_of_getElem? (i := 4) rfl), rfl⟩
theorem xb_103 : xbody 103 47 (xgd 47 xc103 xh103) = true := by decide +kernel
theorem xcw_103 : Cond.code (xNm 103).1 (xNm 103).2.1 (xNm 103).2.2.1 (xNm 103).2.2.2.1 ∈ wsG := List.mem_filter.mpr ⟨xtb_in (k := 7) (List.mem_of_getElem? (i := 8) rfl), rfl⟩
theorem xb_104 : xbody 104 11 (xgd 11 xc104 xh104) = true := by decide +kernel
theorem xcw_104 : Cond.code (xNm 104).1 (xNm 104).2.1 (xNm 104).2.2.1 (xNm 104).2.2.2.1 ∈ wsG := List.mem_filter.mpr ⟨xtb_in (k := 7) (List.mem_of_getElem? (i := 11) rfl), rfl⟩
theorem xb_105 : xbody 105 307 (xgd 307 xc105 xh105) = true := by decide +kernel
theorem xcw_105 : Cond.code (xNm 105).1 (xNm 105).2.1 (xNm 105).2.2.1 (xNm 105).2.2.2.1 ∈ wsG := List.mem_filter.mpr ⟨xtb_in (k := 6) (List.mem_of_getElem? (i := 235) rfl), rfl⟩
theorem xb_106 : xbody 106 101 (xgd 101 xc106 xh106) = true := by decide +kernel
theorem xcw_106 : Cond.code (xNm 106).1 (xNm 106).2.1 (xNm 106).2.2.1 (xNm 106).2.2.2.1 ∈ wsG := List.mem_filter.mpr ⟨xtb_in (k := 6) (List.mem_of_getElem? (i := 231) rfl), rfl⟩
theorem xb_107 : xbody 107 12 (xgd 12 xc107 xh107) = true := by decide +kernel
theorem xcw_107 : Cond.code (xNm 107).1 (xNm 107).2.1 (xNm 107).2.2.1 (xNm 107).2.2.2.1 ∈ wsG := List.mem_filter.mpr ⟨xtb_in (k := 3) (List.mem_of_getElem? (i := 200) rfl), rfl⟩
theorem xb_108 : xbody 108 123 (xgd 123 xc108 xh108) = true := by decide +kernel
theorem xcw_108 : Cond.code (xNm 108).1 (xNm 108).2.1 (xNm 108).2.2.1 (xNm 108).2.2.2.1 ∈ wsG := List.mem_filter.mpr ⟨xtb_in (k := 3) (List.mem_of_getElem? (i := 196) rfl), rfl⟩
theorem xb_109 : xbody 109 27 (xgd 27 xc109 xh109) = true := by decide +kernel
theorem xcw_109 : Cond.code (xNm 109).1 (xNm 109).2.1 (xNm 109).2.2.1 (xNm 109).2.2.2.1 ∈ wsG := List.mem_filter.mpr ⟨xtb_in (k := 3) (List.mem_of_getElem? (i := 192) rfl), rfl⟩
theorem xb_110 : xbody 110 23 (xgd 23 xc110 xh110) = true := by decide +kernel
theorem xcw_110 : Cond.code (xNm 110).1 (xNm 110).2.1 (xNm 110).2.2.1 (xNm 110).2.2.2.1 ∈ wsG := List.mem_filter.mpr ⟨xtb_in (k := 7) (List.mem_of_getElem? (i := 16) rfl), rfl⟩
theorem xb_111 : xbody 111 64 (xgd 64 xc111 xh111) = true := by decide +kernel
theorem xcw_111 : Cond.code (xNm 111).1 (xNm 111).2.1 (xNm 111).2.2.1 (xNm 111).2.2.2.1 ∈ wsG := List.mem_filter.mpr ⟨xtb_in (k := 3) (List.mem_of_getElem? (i := 204) rfl), rfl⟩
theorem xb_112 : xbody 112 64 (xgd 64 xc112 xh112) = true := by decide +kernel
theorem xcw_112 : Cond.code (xNm 112).1 (xNm 112).2.1 (xNm 112).2.2.1 (xNm 112).2.2.2.1 ∈ wsG := List.mem_filter.mpr ⟨xtb_in (k := 7) (List.mem_of_getElem? (i := 20) rfl), rfl⟩
theorem xb_113 : xbody 113 20 (xgd 20 xc113 xh113) = true := by decide +kernel
theorem xcw_113 : Cond.code (xNm 113).1 (xNm 113).2.1 (xNm 113).2.2.1 (xNm 113).2.2.2.1 ∈ wsG := List.mem_filter.mpr ⟨xtb_in (k := 3) (List.mem_of_getElem? (i := 224) rfl), rfl⟩
theorem xb_114 : xbody 114 55 (xgd 55 xc114 xh114) = true := by decide +kernel
theorem xcw_114 : Cond.code (xNm 114).1 (xNm 114).2.1 (xNm 114).2.2.1 (xNm 114).2.2.2.1 ∈ wsG := List.mem_filter.mpr ⟨xtb_in (k := 3) (List.mem_of_getElem? (i := 228) rfl), rfl⟩
theorem xb_115 : xbody 115 36 (xgd 36 xc115 xh115) = true := by decide +kernel
theorem xcw_115 : Cond.code (xNm 115).1 (xNm 115).2.1 (xNm 115).2.2.1 (xNm 115).2.2.2.1 ∈ wsG := List.mem_filter.mpr ⟨xtb_in (k := 3) (List.mem_of_getElem? (i := 221) rfl), rfl⟩
theorem xb_116 : xbody 116 62 (xgd 62 xc116 xh116) = true := by decide +kernel
theorem xcw_116 : Cond.code (xNm 116).1 (xNm 116).2.1 (xNm 116).2.2.1 (xNm 116).2.2.2.1 ∈ wsG := List.mem_filter.mpr ⟨xtb_in (k := 3) (List.mem_of_getElem? (i := 216) rfl), rfl⟩
theorem xb_117 : xbody 117 38 (xgd 38 xc117 xh117) = true := by decide +kernel
theorem xcw_117 : Cond.code (xNm 117).1 (xNm 117).2.1 (xNm 117).2.2.1 (xNm 117).2.2.2.1 ∈ wsG := List.mem_filter.mpr ⟨xtb_in (k := 3) (List.mem_of_getElem? (i := 212) rfl), rfl⟩
theorem xb_118 : xbody 118 35 (xgd 35 xc118 xh118) = true := by decide +kernel
theorem xcw_118 : Cond.code (xNm 118).1 (xNm 118).2.1 (xNm 118).2.2.1 (xNm 118).2.2.2.1 ∈ wsG := List.mem_filter.mpr ⟨xtb_in (k := 3) (List.mem_of_getElem? (i := 208) rfl), rfl⟩
theorem xb_119 : xbody 119 62 (xgd 62 xc119 xh119) = true := by decide +kernel
theorem xcw_119 : Cond.code (xNm 119).1 (xNm 119).2.1 (xNm 119).2.2.1 (xNm 119).2.2.2.1 ∈ wsG := List.mem_filter.mpr ⟨xtb_in (k := 7) (List.mem_of_getElem? (i := 32) rfl), rfl⟩
theorem xb_120 : xbody 120 124 (xgd 124 xc120 xh120) = true := by decide +kernel
theorem xcw_120 : Cond.code (xNm 120).1 (xNm 120).2.1 (xNm 120).2.2.1 (xNm 120).2.2.2.1 ∈ wsG := List.mem_filter.mpr ⟨xtb_in (k := 7) (List.mem_of_getElem? (i := 28) rfl), rfl⟩
theorem xb_121 : xbody 121 47 (xgd 47 xc121 xh121) = true := by decide +kernel
theorem xcw_121 : Cond.code (xNm 121).1 (xNm 121).2.1 (xNm 121).2.2.1 (xNm 121).2.2.2.1 ∈ wsG := List.mem_filter.mpr ⟨xtb_in (k := 7) (List.mem_of_getElem? (i := 24) rfl), rfl⟩
theorem xb_122 : xbody 122 68 (xgd 68 xc122 xh122) = true := by decide +kernel
theorem xcw_122 : Cond.code (xNm 122).1 (xNm 122).2.1 (xNm 122).2.2.1 (xNm 122).2.2.2.1 ∈ wsG := List.mem_filter.mpr ⟨xtb_in (k := 3) (List.mem_of_getElem? (i := 236) rfl), rfl⟩
theorem xb_123 : xbody 123 58 (xgd 58 xc123 xh123) = true := by decide +kernel
theorem xcw_123 : Cond.code (xNm 123).1 (xNm 123).2.1 (xNm 123).2.2.1 (xNm 123).2.2.2.1 ∈ wsG := List.mem_filter.mpr ⟨xtb_in (k := 4) (List.mem_of_getElem? (i := 1) rfl), rfl⟩
theorem xb_124 : xbody 124 95 (xgd 95 xc124 xh124) = true := by decide +kernel
theorem xcw_124 : Cond.code (xNm 124).1 (xNm 124).2.1 (xNm 124).2.2.1 (xNm 124).2.2.2.1 ∈ wsG := List.mem_filter.mpr ⟨xtb_in (k := 3) (List.mem_of_getElem? (i := 232) rfl), rfl⟩
theorem xb_125 : xbody 125 143 (xgd 143 xc125 xh125) = true := by decide +kernel
theorem xcw_125 : Cond.code (xNm 125).1 (xNm 125).2.1 (xNm 125).2.2.1 (xNm 125).2.2.2.1 ∈ wsG := List.mem_filter.mpr ⟨xtb_in (k := 7) (List.mem_of_getElem? (i := 36) rfl), rfl⟩
theorem xb_126 : xbody 126 69 (xgd 69 xc126 xh126) = true := by decide +kernel
theorem xcw_126 : Cond.code (xNm 126).1 (xNm 126).2.1 (xNm 126).2.2.1 (xNm 126).2.2.2.1 ∈ wsG := List.mem_filter.mpr ⟨xtb_in (k := 4) (List.mem_of_getElem? (i := 9) rfl), rfl⟩
theorem xb_127 : xbody 127 57 (xgd 57 xc127 xh127) = true := by decide +kernel
theorem xcw_127 : Cond.code (xNm 127).1 (xNm 127).2.1 (xNm 127).2.2.1 (xNm 127).2.2.2.1 ∈ wsG := List.mem_filter.mpr ⟨xtb_in (k := 4) (List.mem_of_getElem? (i := 5) rfl), rfl⟩
theorem xb_128 : xbody 128 67 (xgd 67 xc128 xh128) = true := by decide +kernel
theorem xcw_128 : Cond.code (xNm 128).1 (xNm 128).2.1 (xNm 128).2.2.1 (xNm 128).2.2.2.1 ∈ wsG := List.mem_filter.mpr ⟨xtb_in (k := 7) (List.mem_of_getElem? (i := 44) rfl), rfl⟩
theorem xb_129 : xbody 129 76 (xgd 76 xc129 xh129) = true := by decide +kernel
theorem xcw_129 : Cond.code (xNm 129).1 (xNm 129).2.1 (xNm 129).2.2.1 (xNm 129).2.2.2.1 ∈ wsG := List.mem_filter.mpr ⟨xtb_in (k := 7) (List.mem_of_getElem? (i := 40) rfl), rfl⟩
theorem xb_130 : xbody 130 129 (xgd 129 xc130 xh130) = true := by decide +kernel
theorem xcw_130 : Cond.code (xNm 130).1 (xNm 130).2.1 (xNm 130).2.2.1 (xNm 130).2.2.2.1 ∈ wsG := List.mem_filter.mpr ⟨xtb_in (k := 4) (List.mem_of_getElem? (i := 18) rfl), rfl⟩
theorem xb_131 : xbody 131 58 (xgd 58 xc131 xh131) = true := by decide +kernel
theorem xcw_131 : Cond.code (xNm 131).1 (xNm 131).2.1 (xNm 131).2.2.1 (xNm 131).2.2.2.1 ∈ wsG := List.mem_filter.mpr ⟨xtb_in (k := 4) (List.mem_of_getElem? (i := 14) rfl), rfl⟩
theorem xb_132 : xbody 132 168 (xgd 168 xc132 xh132) = true := by decide +kernel
theorem xcw_132 : Cond.code (xNm 132).1 (xNm 132).2.1 (xNm 132).2.2.1 (xNm 132).2.2.2.1 ∈ wsG := List.mem_filter.mpr ⟨xtb_in (k := 7) (List.mem_of_getElem? (i := 48) rfl), rfl⟩
theorem xb_133 : xbody 133 51 (xgd 51 xc133 xh133) = true := by decide +kernel
theorem xcw_133 : Cond.code (xNm 133).1 (xNm 133).2.1 (xNm 133).2.2.1 (xNm 133).2.2.2.1 ∈ wsG := List.mem_filter.mpr ⟨xtb_in (k := 4) (List.mem_of_getElem? (i := 31) rfl), rfl⟩
theorem xb_134 : xbody 134 47 (xgd 47 xc134 xh134) = true := by decide +kernel
theorem xcw_134 : Cond.code (xNm 134).1 (xNm 134).2.1 (xNm 134).2.2.1 (xNm 134).2.2.2.1 ∈ wsG := List.mem_filter.mpr ⟨xtb_in (k := 4) (List.mem_of_getElem? (i := 27) rfl), rfl⟩
theorem xb_135 : xbody 135 15 (xgd 15 xc135 xh135) = true := by decide +kernel
theorem xcw_135 : Cond.code (xNm 135).1 (xNm 135).2.1 (xNm 135).2.2.1 (xNm 135).2.2.2.1 ∈ wsG := List.mem_filter.mpr ⟨xtb_in (k := 4) (List.mem_of_getElem? (i := 23) rfl), rfl⟩
theorem xb_136 : xbody 136 39 (xgd 39 xc136 xh136) = true := by decide +kernel
theorem xcw_136 : Cond.code (xNm 136).1 (xNm 136).2.1 (xNm 136).2.2.1 (xNm 136).2.2.2.1 ∈ wsG := List.mem_filter.mpr ⟨xtb_in (k := 7) (List.mem_of_getElem? (i := 56) rfl), rfl⟩
theorem xb_137 : xbody 137 47 (xgd 47 xc137 xh137) = true := by decide +kernel
theorem xcw_137 : Cond.code (xNm 137).1 (xNm 137).2.1 (xNm 137).2.2.1 (xNm 137).2.2.2.1 ∈ wsG := List.mem_filter.mpr ⟨xtb_in (k := 7) (List.mem_of_getElem? (i := 52) rfl), rfl⟩
theorem xb_138 : xbody 138 27 (xgd 27 xc138 xh138) = true := by decide +kernel
theorem xcw_138 : Cond.code (xNm 138).1 (xNm 138).2.1 (xNm 138).2.2.1 (xNm 138).2.2.2.1 ∈ wsG := List.mem_filter.mpr ⟨xtb_in (k := 4) (List.mem_of_getElem? (i := 35) rfl), rfl⟩
theorem xb_139 : xbody 139 21 (xgd 21 xc139 xh139) = true := by decide +kernel
theorem xcw_139 : Cond.code (xNm 139).1 (xNm 139).2.1 (xNm 139).2.2.1 (xNm 139).2.2.2.1 ∈ wsG := List.mem_filter.mpr ⟨xtb_in (k := 7) (List.mem_of_getElem? (i := 60) rfl), rfl⟩
