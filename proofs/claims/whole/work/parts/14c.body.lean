/-! THE BODIES, checked by the kernel: methods 140 to 199 -/
theorem xb_140 : xbody 140 18 (xgd 18 xc140 xh140) = true := by decide +kernel
theorem xcw_140 : Cond.code (xNm 140).1 (xNm 140).2.1 (xNm 140).2.2.1 (xNm 140).2.2.2.1 ∈ wsG := List.mem_filter.mpr ⟨xtb_in (k := 4) (List.mem_of_getElem? (i := 51) rfl), rfl⟩
theorem xb_141 : xbody 141 30 (xgd 30 xc141 xh141) = true := by decide +kernel
theorem xcw_141 : Cond.code (xNm 141).1 (xNm 141).2.1 (xNm 141).2.2.1 (xNm 141).2.2.2.1 ∈ wsG := List.mem_filter.mpr ⟨xtb_in (k := 4) (List.mem_of_getElem? (i := 58) rfl), rfl⟩
theorem xb_142 : xbody 142 15 (xgd 15 xc142 xh142) = true := by decide +kernel
theorem xcw_142 : Cond.code (xNm 142).1 (xNm 142).2.1 (xNm 142).2.2.1 (xNm 142).2.2.2.1 ∈ wsG := List.mem_filter.mpr ⟨xtb_in (k := 4) (List.mem_of_getElem? (i := 71) rfl), rfl⟩
theorem xb_143 : xbody 143 11 (xgd 11 xc143 xh143) = true := by decide +kernel
theorem xcw_143 : Cond.code (xNm 143).1 (xNm 143).2.1 (xNm 143).2.2.1 (xNm 143).2.2.2.1 ∈ wsG := List.mem_filter.mpr ⟨xtb_in (k := 4) (List.mem_of_getElem? (i := 67) rfl), rfl⟩
theorem xb_144 : xbody 144 19 (xgd 19 xc144 xh144) = true := by decide +kernel
theorem xcw_144 : Cond.code (xNm 144).1 (xNm 144).2.1 (xNm 144).2.2.1 (xNm 144).2.2.2.1 ∈ wsG := List.mem_filter.mpr ⟨xtb_in (k := 4) (List.mem_of_getElem? (i := 81) rfl), rfl⟩
theorem xb_145 : xbody 145 18 (xgd 18 xc145 xh145) = true := by decide +kernel
theorem xcw_145 : Cond.code (xNm 145).1 (xNm 145).2.1 (xNm 145).2.2.1 (xNm 145).2.2.2.1 ∈ wsG := List.mem_filter.mpr ⟨xtb_in (k := 4) (List.mem_of_getElem? (i := 92) rfl), rfl⟩
theorem xb_146 : xbody 146 10 (xgd 10 xc146 xh146) = true := by decide +kernel
theorem xcw_146 : Cond.code (xNm 146).1 (xNm 146).2.1 (xNm 146).2.2.1 (xNm 146).2.2.2.1 ∈ wsG := List.mem_filter.mpr ⟨xtb_in (k := 4) (List.mem_of_getElem? (i := 87) rfl), rfl⟩
theorem xb_147 : xbody 147 15 (xgd 15 xc147 xh147) = true := by decide +kernel
theorem xcw_147 : Cond.code (xNm 147).1 (xNm 147).2.1 (xNm 147).2.2.1 (xNm 147).2.2.2.1 ∈ wsG := List.mem_filter.mpr ⟨xtb_in (k := 4) (List.mem_of_getElem? (i := 84) rfl), rfl⟩
theorem xb_148 : xbody 148 25 (xgd 25 xc148 xh148) = true := by decide +kernel
theorem xcw_148 : Cond.code (xNm 148).1 (xNm 148).2.1 (xNm 148).2.2.1 (xNm 148).2.2.2.1 ∈ wsG := List.mem_filter.mpr ⟨xtb_in (k := 4) (List.mem_of_getElem? (i := 77) rfl), rfl⟩
theorem xb_149 : xbody 149 71 (xgd 71 xc149 xh149) = true := by decide +kernel
theorem xcw_149 : Cond.code (xNm 149).1 (xNm 149).2.1 (xNm 149).2.2.1 (xNm 149).2.2.2.1 ∈ wsG := List.mem_filter.mpr ⟨xtb_in (k := 4) (List.mem_of_getElem? (i := 115) rfl), rfl⟩
theorem xb_150 : xbody 150 75 (xgd 75 xc150 xh150) = true := by decide +kernel
theorem xcw_150 : Cond.code (xNm 150).1 (xNm 150).2.1 (xNm 150).2.2.1 (xNm 150).2.2.2.1 ∈ wsG := List.mem_filter.mpr ⟨xtb_in (k := 4) (List.mem_of_getElem? (i := 62) rfl), rfl⟩
theorem xb_151 : xbody 151 18 (xgd 18 xc151 xh151) = true := by decide +kernel
theorem xcw_151 : Cond.code (xNm 151).1 (xNm 151).2.1 (xNm 151).2.2.1 (xNm 151).2.2.2.1 ∈ wsG := List.mem_filter.mpr ⟨xtb_in (k := 4) (List.mem_of_getElem? (i := 118) rfl), rfl⟩
theorem xb_152 : xbody 152 17 (xgd 17 xc152 xh152) = true := by decide +kernel
theorem xcw_152 : Cond.code (xNm 152).1 (xNm 152).2.1 (xNm 152).2.2.1 (xNm 152).2.2.2.1 ∈ wsG := List.mem_filter.mpr ⟨xtb_in (k := 4) (List.mem_of_getElem? (i := 137) rfl), rfl⟩
theorem xb_153 : xbody 153 33 (xgd 33 xc153 xh153) = true := by decide +kernel
theorem xcw_153 : Cond.code (xNm 153).1 (xNm 153).2.1 (xNm 153).2.2.1 (xNm 153).2.2.2.1 ∈ wsG := List.mem_filter.mpr ⟨xtb_in (k := 4) (List.mem_of_getElem? (i := 144) rfl), rfl⟩
theorem xb_154 : xbody 154 37 (xgd 37 xc154 xh154) = true := by decide +kernel
theorem xcw_154 : Cond.code (xNm 154).1 (xNm 154).2.1 (xNm 154).2.2.1 (xNm 154).2.2.2.1 ∈ wsG := List.mem_filter.mpr ⟨xtb_in (k := 4) (List.mem_of_getElem? (i := 134) rfl), rfl⟩
theorem xb_155 : xbody 155 37 (xgd 37 xc155 xh155) = true := by decide +kernel
theorem xcw_155 : Cond.code (xNm 155).1 (xNm 155).2.1 (xNm 155).2.2.1 (xNm 155).2.2.2.1 ∈ wsG := List.mem_filter.mpr ⟨xtb_in (k := 4) (List.mem_of_getElem? (i := 130) rfl), rfl⟩
theorem xb_156 : xbody 156 7 (xgd 7 xc156 xh156) = true := by decide +kernel
theorem xcw_156 : Cond.code (xNm 156).1 (xNm 156).2.1 (xNm 156).2.2.1 (xNm 156).2.2.2.1 ∈ wsG := List.mem_filter.mpr ⟨xtb_in (k := 4) (List.mem_of_getElem? (i := 126) rfl), rfl⟩
theorem xb_157 : xbody 157 271 (xgd 271 xc157 xh157) = true := by decide +kernel
theorem xcw_157 : Cond.code (xNm 157).1 (xNm 157).2.1 (xNm 157).2.2.1 (xNm 157).2.2.2.1 ∈ wsG := List.mem_filter.mpr ⟨xtb_in (k := 4) (List.mem_of_getElem? (i := 55) rfl), rfl⟩
theorem xb_158 : xbody 158 94 (xgd 94 xc158 xh158) = true := by decide +kernel
theorem xcw_158 : Cond.code (xNm 158).1 (xNm 158).2.1 (xNm 158).2.2.1 (xNm 158).2.2.2.1 ∈ wsG := List.mem_filter.mpr ⟨xtb_in (k := 4) (List.mem_of_getElem? (i := 48) rfl), rfl⟩
theorem xb_159 : xbody 159 20 (xgd 20 xc159 xh159) = true := by decide +kernel
theorem xcw_159 : Cond.code (xNm 159).1 (xNm 159).2.1 (xNm 159).2.2.1 (xNm 159).2.2.2.1 ∈ wsG := List.mem_filter.mpr ⟨xtb_in (k := 4) (List.mem_of_getElem? (i := 187) rfl), rfl⟩
theorem xb_160 : xbody 160 35 (xgd 35 xc160 xh160) = true := by decide +kernel
theorem xcw_160 : Cond.code (xNm 160).1 (xNm 160).2.1 (xNm 160).2.2.1 (xNm 160).2.2.2.1 ∈ wsG := List.mem_filter.mpr ⟨xtb_in (k := 4) (List.mem_of_getElem? (i := 191) rfl), rfl⟩
theorem xb_161 : xbody 161 47 (xgd 47 xc161 xh161) = true := by decide +kernel
theorem xcw_161 : Cond.code (xNm 161).1 (xNm 161).2.1 (xNm 161).2.2.1 (xNm 161).2.2.2.1 ∈ wsG := List.mem_filter.mpr ⟨xtb_in (k := 4) (List.mem_of_getElem? (i := 203) rfl), rfl⟩
theorem xb_162 : xbody 162 201 (xgd 201 xc162 xh162) = true := by decide +kernel
theorem xcw_162 : Cond.code (xNm 162).1 (xNm 162).2.1 (xNm 162).2.2.1 (xNm 162).2.2.2.1 ∈ wsG := List.mem_filter.mpr ⟨xtb_in (k := 4) (List.mem_of_getElem? (i := 199) rfl), rfl⟩
theorem xb_163 : xbody 163 140 (xgd 140 xc163 xh163) = true := by decide +kernel
theorem xcw_163 : Cond.code (xNm 163).1 (xNm 163).2.1 (xNm 163).2.2.1 (xNm 163).2.2.2.1 ∈ wsG := List.mem_filter.mpr ⟨xtb_in (k := 4) (List.mem_of_getElem? (i := 195) rfl), rfl⟩
theorem xb_164 : xbody 164 131 (xgd 131 xc164 xh164) = true := by decide +kernel
theorem xcw_164 : Cond.code (xNm 164).1 (xNm 164).2.1 (xNm 164).2.2.1 (xNm 164).2.2.2.1 ∈ wsG := List.mem_filter.mpr ⟨xtb_in (k := 4) (List.mem_of_getElem? (i := 211) rfl), rfl⟩
theorem xb_165 : xbody 165 114 (xgd 114 xc165 xh165) = true := by decide +kernel
theorem xcw_165 : Cond.code (xNm 165).1 (xNm 165).2.1 (xNm 165).2.2.1 (xNm 165).2.2.2.1 ∈ wsG := List.mem_filter.mpr ⟨xtb_in (k := 4) (List.mem_of_getElem? (i := 207) rfl), rfl⟩
theorem xb_166 : xbody 166 142 (xgd 142 xc166 xh166) = true := by decide +kernel
theorem xcw_166 : Cond.code (xNm 166).1 (xNm 166).2.1 (xNm 166).2.2.1 (xNm 166).2.2.2.1 ∈ wsG := List.mem_filter.mpr ⟨xtb_in (k := 4) (List.mem_of_getElem? (i := 183) rfl), rfl⟩
theorem xb_167 : xbody 167 109 (xgd 109 xc167 xh167) = true := by decide +kernel
theorem xcw_167 : Cond.code (xNm 167).1 (xNm 167).2.1 (xNm 167).2.2.1 (xNm 167).2.2.2.1 ∈ wsG := List.mem_filter.mpr ⟨xtb_in (k := 4) (List.mem_of_getElem? (i := 43) rfl), rfl⟩
theorem xb_168 : xbody 168 53 (xgd 53 xc168 xh168) = true := by decide +kernel
theorem xcw_168 : Cond.code (xNm 168).1 (xNm 168).2.1 (xNm 168).2.2.1 (xNm 168).2.2.2.1 ∈ wsG := List.mem_filter.mpr ⟨xtb_in (k := 4) (List.mem_of_getElem? (i := 39) rfl), rfl⟩
theorem xb_169 : xbody 169 28 (xgd 28 xc169 xh169) = true := by decide +kernel
theorem xcw_169 : Cond.code (xNm 169).1 (xNm 169).2.1 (xNm 169).2.2.1 (xNm 169).2.2.2.1 ∈ wsG := List.mem_filter.mpr ⟨xtb_in (k := 7) (List.mem_of_getElem? (i := 71) rfl), rfl⟩
theorem xb_170 : xbody 170 194 (xgd 194 xc170 xh170) = true := by decide +kernel
theorem xcw_170 : Cond.code (xNm 170).1 (xNm 170).2.1 (xNm 170).2.2.1 (xNm 170).2.2.2.1 ∈ wsG := List.mem_filter.mpr ⟨xtb_in (k := 7) (List.mem_of_getElem? (i := 75) rfl), rfl⟩
theorem xb_171 : xbody 171 441 (xgd 441 xc171 xh171) = true := by decide +kernel
theorem xcw_171 : Cond.code (xNm 171).1 (xNm 171).2.1 (xNm 171).2.2.1 (xNm 171).2.2.2.1 ∈ wsG := List.mem_filter.mpr ⟨xtb_in (k := 7) (List.mem_of_getElem? (i := 68) rfl), rfl⟩
theorem xb_172 : xbody 172 22 (xgd 22 xc172 xh172) = true := by decide +kernel
theorem xcw_172 : Cond.code (xNm 172).1 (xNm 172).2.1 (xNm 172).2.2.1 (xNm 172).2.2.2.1 ∈ wsG := List.mem_filter.mpr ⟨xtb_in (k := 7) (List.mem_of_getElem? (i := 102) rfl), rfl⟩
theorem xb_173 : xbody 173 21 (xgd 21 xc173 xh173) = true := by decide +kernel
theorem xcw_173 : Cond.code (xNm 173).1 (xNm 173).2.1 (xNm 173).2.2.1 (xNm 173).2.2.2.1 ∈ wsG := List.mem_filter.mpr ⟨xtb_in (k := 7) (List.mem_of_getElem? (i := 110) rfl), rfl⟩
theorem xb_174 : xbody 174 21 (xgd 21 xc174 xh174) = true := by decide +kernel
theorem xcw_174 : Cond.code (xNm 174).1 (xNm 174).2.1 (xNm 174).2.2.1 (xNm 174).2.2.2.1 ∈ wsG := List.mem_filter.mpr ⟨xtb_in (k := 7) (List.mem_of_getElem? (i := 114) rfl), rfl⟩
theorem xb_175 : xbody 175 37 (xgd 37 xc175 xh175) = true := by decide +kernel
theorem xcw_175 : Cond.code (xNm 175).1 (xNm 175).2.1 (xNm 175).2.2.1 (xNm 175).2.2.2.1 ∈ wsG := List.mem_filter.mpr ⟨xtb_in (k := 7) (List.mem_of_getElem? (i := 106) rfl), rfl⟩
theorem xb_176 : xbody 176 29 (xgd 29 xc176 xh176) = true := by decide +kernel
theorem xcw_176 : Cond.code (xNm 176).1 (xNm 176).2.1 (xNm 176).2.2.1 (xNm 176).2.2.2.1 ∈ wsG := List.mem_filter.mpr ⟨xtb_in (k := 7) (List.mem_of_getElem? (i := 98) rfl), rfl⟩
theorem xb_177 : xbody 177 31 (xgd 31 xc177 xh177) = true := by decide +kernel
theorem xcw_177 : Cond.code (xNm 177).1 (xNm 177).2.1 (xNm 177).2.2.1 (xNm 177).2.2.2.1 ∈ wsG := List.mem_filter.mpr ⟨xtb_in (k := 7) (List.mem_of_getElem? (i := 122) rfl), rfl⟩
theorem xb_178 : xbody 178 12 (xgd 12 xc178 xh178) = true := by decide +kernel
theorem xcw_178 : Cond.code (xNm 178).1 (xNm 178).2.1 (xNm 178).2.2.1 (xNm 178).2.2.2.1 ∈ wsG := List.mem_filter.mpr ⟨xtb_in (k := 7) (List.mem_of_getElem? (i := 130) rfl), rfl⟩
theorem xb_179 : xbody 179 46 (xgd 46 xc179 xh179) = true := by decide +kernel
theorem xcw_179 : Cond.code (xNm 179).1 (xNm 179).2.1 (xNm 179).2.2.1 (xNm 179).2.2.2.1 ∈ wsG := List.mem_filter.mpr ⟨xtb_in (k := 7) (List.mem_of_getElem? (i := 126) rfl), rfl⟩
theorem xb_180 : xbody 180 22 (xgd 22 xc180 xh180) = true := by decide +kernel
theorem xcw_180 : Cond.code (xNm 180).1 (xNm 180).2.1 (xNm 180).2.2.1 (xNm 180).2.2.2.1 ∈ wsG := List.mem_filter.mpr ⟨xtb_in (k := 7) (List.mem_of_getElem? (i := 134) rfl), rfl⟩
theorem xb_181 : xbody 181 134 (xgd 134 xc181 xh181) = true := by decide +kernel
theorem xcw_181 : Cond.code (xNm 181).1 (xNm 181).2.1 (xNm 181).2.2.1 (xNm 181).2.2.2.1 ∈ wsG := List.mem_filter.mpr ⟨xtb_in (k := 7) (List.mem_of_getElem? (i := 118) rfl), rfl⟩
theorem xb_182 : xbody 182 40 (xgd 40 xc182 xh182) = true := by decide +kernel
theorem xcw_182 : Cond.code (xNm 182).1 (xNm 182).2.1 (xNm 182).2.2.1 (xNm 182).2.2.2.1 ∈ wsG := List.mem_filter.mpr ⟨xtb_in (k := 7) (List.mem_of_getElem? (i := 145) rfl), rfl⟩
theorem xb_183 : xbody 183 71 (xgd 71 xc183 xh183) = true := by decide +kernel
theorem xcw_183 : Cond.code (xNm 183).1 (xNm 183).2.1 (xNm 183).2.2.1 (xNm 183).2.2.2.1 ∈ wsG := List.mem_filter.mpr ⟨xtb_in (k := 7) (List.mem_of_getElem? (i := 149) rfl), rfl⟩
theorem xb_184 : xbody 184 46 (xgd 46 xc184 xh184) = true := by decide +kernel
theorem xcw_184 : Cond.code (xNm 184).1 (xNm 184).2.1 (xNm 184).2.2.1 (xNm 184).2.2.2.1 ∈ wsG := List.mem_filter.mpr ⟨xtb_in (k := 7) (List.mem_of_getElem? (i := 142) rfl), rfl⟩
theorem xb_185 : xbody 185 44 (xgd 44 xc185 xh185) = true := by decide +kernel
theorem xcw_185 : Cond.code (xNm 185).1 (xNm 185).2.1 (xNm 185).2.2.1 (xNm 185).2.2.2.1 ∈ wsG := List.mem_filter.mpr ⟨xtb_in (k := 7) (List.mem_of_getElem? (i := 152) rfl), rfl⟩
theorem xb_186 : xbody 186 45 (xgd 45 xc186 xh186) = true := by decide +kernel
theorem xcw_186 : Cond.code (xNm 186).1 (xNm 186).2.1 (xNm 186).2.2.1 (xNm 186).2.2.2.1 ∈ wsG := List.mem_filter.mpr ⟨xtb_in (k := 7) (List.mem_of_getElem? (i := 156) rfl), rfl⟩
theorem xb_187 : xbody 187 38 (xgd 38 xc187 xh187) = true := by decide +kernel
theorem xcw_187 : Cond.code (xNm 187).1 (xNm 187).2.1 (xNm 187).2.2.1 (xNm 187).2.2.2.1 ∈ wsG := List.mem_filter.mpr ⟨xtb_in (k := 7) (List.mem_of_getElem? (i := 160) rfl), rfl⟩
theorem xb_188 : xbody 188 251 (xgd 251 xc188 xh188) = true := by decide +kernel
theorem xcw_188 : Cond.code (xNm 188).1 (xNm 188).2.1 (xNm 188).2.2.1 (xNm 188).2.2.2.1 ∈ wsG := List.mem_filter.mpr ⟨xtb_in (k := 7) (List.mem_of_getElem? (i := 138) rfl), rfl⟩
theorem xb_189 : xbody 189 75 (xgd 75 xc189 xh189) = true := by decide +kernel
theorem xcw_189 : Cond.code (xNm 189).1 (xNm 189).2.1 (xNm 189).2.2.1 (xNm 189).2.2.2.1 ∈ wsG := List.mem_filter.mpr ⟨xtb_in (k := 7) (List.mem_of_getElem? (i := 164) rfl), rfl⟩
theorem xb_190 : xbody 190 40 (xgd 40 xc190 xh190) = true := by decide +kernel
theorem xcw_190 : Cond.code (xNm 190).1 (xNm 190).2.1 (xNm 190).2.2.1 (xNm 190).2.2.2.1 ∈ wsG := List.mem_filter.mpr ⟨xtb_in (k := 7) (List.mem_of_getElem? (i := 172) rfl), rfl⟩
theorem xb_191 : xbody 191 126 (xgd 126 xc191 xh191) = true := by decide +kernel
theorem xcw_191 : Cond.code (xNm 191).1 (xNm 191).2.1 (xNm 191).2.2.1 (xNm 191).2.2.2.1 ∈ wsG := List.mem_filter.mpr ⟨xtb_in (k := 7) (List.mem_of_getElem? (i := 168) rfl), rfl⟩
theorem xb_192 : xbody 192 119 (xgd 119 xc192 xh192) = true := by decide +kernel
theorem xcw_192 : Cond.code (xNm 192).1 (xNm 192).2.1 (xNm 192).2.2.1 (xNm 192).2.2.2.1 ∈ wsG := List.mem_filter.mpr ⟨xtb_in (k := 7) (List.mem_of_getElem? (i := 176) rfl), rfl⟩
theorem xb_193 : xbody 193 221 (xgd 221 xc193 xh193) = true := by decide +kernel
theorem xcw_193 : Cond.code (xNm 193).1 (xNm 193).2.1 (xNm 193).2.2.1 (xNm 193).2.2.2.1 ∈ wsG := List.mem_filter.mpr ⟨xtb_in (k := 7) (List.mem_of_getElem? (i := 64) rfl), rfl⟩
theorem xb_194 : xbody 194 41 (xgd 41 xc194 xh194) = true := by decide +kernel
theorem xcw_194 : Cond.code (xNm 194).1 (xNm 194).2.1 (xNm 194).2.2.1 (xNm 194).2.2.2.1 ∈ wsG := List.mem_filter.mpr ⟨xtb_in (k := 4) (List.mem_of_getElem? (i := 216) rfl), rfl⟩
theorem xb_195 : xbody 195 25 (xgd 25 xc195 xh195) = true := by decide +kernel
theorem xcw_195 : Cond.code (xNm 195).1 (xNm 195).2.1 (xNm 195).2.2.1 (xNm 195).2.2.2.1 ∈ wsG := List.mem_filter.mpr ⟨xtb_in (k := 7) (List.mem_of_getElem? (i := 180) rfl), rfl⟩
theorem xb_196 : xbody 196 29 (xgd 29 xc196 xh196) = true := by decide +kernel
theorem xcw_196 : Cond.code (xNm 196).1 (xNm 196).2.1 (xNm 196).2.2.1 (xNm 196).2.2.2.1 ∈ wsG := List.mem_filter.mpr ⟨xtb_in (k := 4) (List.mem_of_getElem? (i := 220) rfl), rfl⟩
theorem xb_197 : xbody 197 32 (xgd 32 xc197 xh197) = true := by decide +kernel
theorem xcw_197 : Cond.code (xNm 197).1 (xNm 197).2.1 (xNm 197).2.2.1 (xNm 197).2.2.2.1 ∈ wsG := List.mem_filter.mpr ⟨xtb_in (k := 7) (List.mem_of_getElem? (i := 184) rfl), rfl⟩
theorem xb_198 : xbody 198 15 (xgd 15 xc198 xh198) = true := by decide +kernel
theorem xcw_198 : Cond.code (xNm 198).1 (xNm 198).2.1 (xNm 198).2.2.1 (xNm 198).2.2.2.1 ∈ wsG := List.mem_filter.mpr ⟨xtb_in (k := 4) (List.mem_of_getElem? (i := 227) rfl), rfl⟩
theorem xb_199 : xbody 199 81 (xgd 81 xc199 xh199) = true := by decide +kernel
theorem xcw_199 : Cond.code (xNm 199).1 (xNm 199).2.1 (xNm 199).2.2.1 (xNm 199).2.2.2.1 ∈ wsG := List.mem_filter.mpr ⟨xtb_in (k := 4) (List.mem_of_getElem? (i := 231) rfl), rfl⟩
