/-! ALL BODIES AND CODE WORDS -/
def xBody (y : Nat) : Prop := ∀ pc, xchk (xNm y).1.cls (decide ((xNm y).1.name = "<init>")) (xNm y).2.2.1 (xNm y).2.1 pc ((xMC y).1 pc) = true
def xCodeW (y : Nat) : Prop := Jvm.Cond.code (xNm y).1 (xNm y).2.1 (xNm y).2.2.1 (xNm y).2.2.2.1 ∈ wsG
theorem xbl_0 : xBody 0 := fun pc => xbody_all (lo := xc0) (hi := xh0) (by decide) xb_0 pc
theorem xbl_1 : xBody 1 := fun pc => xbody_all (lo := xc1) (hi := xh1) (by decide) xb_1 pc
theorem xbl_2 : xBody 2 := fun pc => xbody_all (lo := xc2) (hi := xh2) (by decide) xb_2 pc
theorem xbl_3 : xBody 3 := fun pc => xbody_all (lo := xc3) (hi := xh3) (by decide) xb_3 pc
theorem xbl_4 : xBody 4 := fun pc => xbody_all (lo := xc4) (hi := xh4) (by decide) xb_4 pc
theorem xbl_5 : xBody 5 := fun pc => xbody_all (lo := xc5) (hi := xh5) (by decide) xb_5 pc
theorem xbl_6 : xBody 6 := fun pc => xbody_all (lo := xc6) (hi := xh6) (by decide) xb_6 pc
theorem xbl_7 : xBody 7 := fun pc => xbody_all (lo := xc7) (hi := xh7) (by decide) xb_7 pc
theorem xbl_8 : xBody 8 := fun pc => xbody_all (lo := xc8) (hi := xh8) (by decide) xb_8 pc
theorem xbl_9 : xBody 9 := fun pc => xbody_all (lo := xc9) (hi := xh9) (by decide) xb_9 pc
theorem xbl_10 : xBody 10 := fun pc => xbody_all (lo := xc10) (hi := xh10) (by decide) xb_10 pc
theorem xbl_11 : xBody 11 := fun pc => xbody_all (lo := xc11) (hi := xh11) (by decide) xb_11 pc
theorem xbl_12 : xBody 12 := fun pc => xbody_all (lo := xc12) (hi := xh12) (by decide) xb_12 pc
theorem xbl_13 : xBody 13 := fun pc => xbody_all (lo := xc13) (hi := xh13) (by decide) xb_13 pc
theorem xbl_14 : xBody 14 := fun pc => xbody_all (lo := xc14) (hi := xh14) (by decide) xb_14 pc
theorem xbl_15 : xBody 15 := fun pc => xbody_all (lo := xc15) (hi := xh15) (by decide) xb_15 pc
theorem xbl_16 : xBody 16 := fun pc => xbody_all (lo := xc16) (hi := xh16) (by decide) xb_16 pc
theorem xbl_17 : xBody 17 := fun pc => xbody_all (lo := xc17) (hi := xh17) (by decide) xb_17 pc
theorem xbl_18 : xBody 18 := fun pc => xbody_all (lo := xc18) (hi := xh18) (by decide) xb_18 pc
theorem xbl_19 : xBody 19 := fun pc => xbody_all (lo := xc19) (hi := xh19) (by decide) xb_19 pc
theorem xbl_20 : xBody 20 := fun pc => xbody_all (lo := xc20) (hi := xh20) (by decide) xb_20 pc
theorem xbl_21 : xBody 21 := fun pc => xbody_all (lo := xc21) (hi := xh21) (by decide) xb_21 pc
theorem xbl_22 : xBody 22 := fun pc => xbody_all (lo := xc22) (hi := xh22) (by decide) xb_22 pc
theorem xbl_23 : xBody 23 := fun pc => xbody_all (lo := xc23) (hi := xh23) (by decide) xb_23 pc
theorem xbl_24 : xBody 24 := fun pc => xbody_all (lo := xc24) (hi := xh24) (by decide) xb_24 pc
theorem xbl_25 : xBody 25 := fun pc => xbody_all (lo := xc25) (hi := xh25) (by decide) xb_25 pc
theorem xbl_26 : xBody 26 := fun pc => xbody_all (lo := xc26) (hi := xh26) (by decide) xb_26 pc
theorem xbl_27 : xBody 27 := fun pc => xbody_all (lo := xc27) (hi := xh27) (by decide) xb_27 pc
theorem xbl_28 : xBody 28 := fun pc => xbody_all (lo := xc28) (hi := xh28) (by decide) xb_28 pc
theorem xbl_29 : xBody 29 := fun pc => xbody_all (lo := xc29) (hi := xh29) (by decide) xb_29 pc
theorem xbl_30 : xBody 30 := fun pc => xbody_all (lo := xc30) (hi := xh30) (by decide) xb_30 pc
theorem xbl_31 : xBody 31 := fun pc => xbody_all (lo := xc31) (hi := xh31) (by decide) xb_31 pc
theorem xbl_32 : xBody 32 := fun pc => xbody_all (lo := xc32) (hi := xh32) (by decide) xb_32 pc
theorem xbl_33 : xBody 33 := fun pc => xbody_all (lo := xc33) (hi := xh33) (by decide) xb_33 pc
theorem xbl_34 : xBody 34 := fun pc => xbody_all (lo := xc34) (hi := xh34) (by decide) xb_34 pc
theorem xbl_35 : xBody 35 := fun pc => xbody_all (lo := xc35) (hi := xh35) (by decide) xb_35 pc
theorem xbl_36 : xBody 36 := fun pc => xbody_all (lo := xc36) (hi := xh36) (by decide) xb_36 pc
theorem xbl_37 : xBody 37 := fun pc => xbody_all (lo := xc37) (hi := xh37) (by decide) xb_37 pc
theorem xbl_38 : xBody 38 := fun pc => xbody_all (lo := xc38) (hi := xh38) (by decide) xb_38 pc
theorem xbl_39 : xBody 39 := fun pc => xbody_all (lo := xc39) (hi := xh39) (by decide) xb_39 pc
theorem xbl_40 : xBody 40 := fun pc => xbody_all (lo := xc40) (hi := xh40) (by decide) xb_40 pc
theorem xbl_41 : xBody 41 := fun pc => xbody_all (lo := xc41) (hi := xh41) (by decide) xb_41 pc
theorem xbl_42 : xBody 42 := fun pc => xbody_all (lo := xc42) (hi := xh42) (by decide) xb_42 pc
theorem xbl_43 : xBody 43 := fun pc => xbody_all (lo := xc43) (hi := xh43) (by decide) xb_43 pc
theorem xbl_44 : xBody 44 := fun pc => xbody_all (lo := xc44) (hi := xh44) (by decide) xb_44 pc
theorem xbl_45 : xBody 45 := fun pc => xbody_all (lo := xc45) (hi := xh45) (by decide) xb_45 pc
theorem xbl_46 : xBody 46 := fun pc => xbody_all (lo := xc46) (hi := xh46) (by decide) xb_46 pc
theorem xbl_47 : xBody 47 := fun pc => xbody_all (lo := xc47) (hi := xh47) (by decide) xb_47 pc
theorem xbl_48 : xBody 48 := fun pc => xbody_all (lo := xc48) (hi := xh48) (by decide) xb_48 pc
theorem xbl_49 : xBody 49 := fun pc => xbody_all (lo := xc49) (hi := xh49) (by decide) xb_49 pc
theorem xbl_50 : xBody 50 := fun pc => xbody_all (lo := xc50) (hi := xh50) (by decide) xb_50 pc
theorem xbl_51 : xBody 51 := fun pc => xbody_all (lo := xc51) (hi := xh51) (by decide) xb_51 pc
theorem xbl_52 : xBody 52 := fun pc => xbody_all (lo := xc52) (hi := xh52) (by decide) xb_52 pc
theorem xbl_53 : xBody 53 := fun pc => xbody_all (lo := xc53) (hi := xh53) (by decide) xb_53 pc
theorem xbl_54 : xBody 54 := fun pc => xbody_all (lo := xc54) (hi := xh54) (by decide) xb_54 pc
theorem xbl_55 : xBody 55 := fun pc => xbody_all (lo := xc55) (hi := xh55) (by decide) xb_55 pc
theorem xbl_56 : xBody 56 := fun pc => xbody_all (lo := xc56) (hi := xh56) (by decide) xb_56 pc
theorem xbl_57 : xBody 57 := fun pc => xbody_all (lo := xc57) (hi := xh57) (by decide) xb_57 pc
theorem xbl_58 : xBody 58 := fun pc => xbody_all (lo := xc58) (hi := xh58) (by decide) xb_58 pc
theorem xbl_59 : xBody 59 := fun pc => xbody_all (lo := xc59) (hi := xh59) (by decide) xb_59 pc
theorem xbl_60 : xBody 60 := fun pc => xbody_all (lo := xc60) (hi := xh60) (by decide) xb_60 pc
theorem xbl_61 : xBody 61 := fun pc => xbody_all (lo := xc61) (hi := xh61) (by decide) xb_61 pc
theorem xbl_62 : xBody 62 := fun pc => xbody_all (lo := xc62) (hi := xh62) (by decide) xb_62 pc
theorem xbl_63 : xBody 63 := fun pc => xbody_all (lo := xc63) (hi := xh63) (by decide) xb_63 pc
theorem xbl_64 : xBody 64 := fun pc => xbody_all (lo := xc64) (hi := xh64) (by decide) xb_64 pc
theorem xbl_65 : xBody 65 := fun pc => xbody_all (lo := xc65) (hi := xh65) (by decide) xb_65 pc
theorem xbl_66 : xBody 66 := fun pc => xbody_all (lo := xc66) (hi := xh66) (by decide) xb_66 pc
theorem xbl_67 : xBody 67 := fun pc => xbody_all (lo := xc67) (hi := xh67) (by decide) xb_67 pc
theorem xbl_68 : xBody 68 := fun pc => xbody_all (lo := xc68) (hi := xh68) (by decide) xb_68 pc
theorem xbl_69 : xBody 69 := fun pc => xbody_all (lo := xc69) (hi := xh69) (by decide) xb_69 pc
theorem xbl_70 : xBody 70 := fun pc => xbody_all (lo := xc70) (hi := xh70) (by decide) xb_70 pc
theorem xbl_71 : xBody 71 := fun pc => xbody_all (lo := xc71) (hi := xh71) (by decide) xb_71 pc
theorem xbl_72 : xBody 72 := fun pc => xbody_all (lo := xc72) (hi := xh72) (by decide) xb_72 pc
theorem xbl_73 : xBody 73 := fun pc => xbody_all (lo := xc73) (hi := xh73) (by decide) xb_73 pc
theorem xbl_74 : xBody 74 := fun pc => xbody_all (lo := xc74) (hi := xh74) (by decide) xb_74 pc
theorem xbl_75 : xBody 75 := fun pc => xbody_all (lo := xc75) (hi := xh75) (by decide) xb_75 pc
theorem xbl_76 : xBody 76 := fun pc => xbody_all (lo := xc76) (hi := xh76) (by decide) xb_76 pc
theorem xbl_77 : xBody 77 := fun pc => xbody_all (lo := xc77) (hi := xh77) (by decide) xb_77 pc
theorem xbl_78 : xBody 78 := fun pc => xbody_all (lo := xc78) (hi := xh78) (by decide) xb_78 pc
theorem xbl_79 : xBody 79 := fun pc => xbody_all (lo := xc79) (hi := xh79) (by decide) xb_79 pc
theorem xbl_80 : xBody 80 := fun pc => xbody_all (lo := xc80) (hi := xh80) (by decide) xb_80 pc
theorem xbl_81 : xBody 81 := fun pc => xbody_all (lo := xc81) (hi := xh81) (by decide) xb_81 pc
theorem xbl_82 : xBody 82 := fun pc => xbody_all (lo := xc82) (hi := xh82) (by decide) xb_82 pc
theorem xbl_83 : xBody 83 := fun pc => xbody_all (lo := xc83) (hi := xh83) (by decide) xb_83 pc
theorem xbl_84 : xBody 84 := fun pc => xbody_all (lo := xc84) (hi := xh84) (by decide) xb_84 pc
theorem xbl_85 : xBody 85 := fun pc => xbody_all (lo := xc85) (hi := xh85) (by decide) xb_85 pc
theorem xbl_86 : xBody 86 := fun pc => xbody_all (lo := xc86) (hi := xh86) (by decide) xb_86 pc
theorem xbl_87 : xBody 87 := fun pc => xbody_all (lo := xc87) (hi := xh87) (by decide) xb_87 pc
theorem xbl_88 : xBody 88 := fun pc => xbody_all (lo := xc88) (hi := xh88) (by decide) xb_88 pc
theorem xbl_89 : xBody 89 := fun pc => xbody_all (lo := xc89) (hi := xh89) (by decide) xb_89 pc
theorem xbl_90 : xBody 90 := fun pc => xbody_all (lo := xc90) (hi := xh90) (by decide) xb_90 pc
theorem xbl_91 : xBody 91 := fun pc => xbody_all (lo := xc91) (hi := xh91) (by decide) xb_91 pc
theorem xbl_92 : xBody 92 := fun pc => xbody_all (lo := xc92) (hi := xh92) (by decide) xb_92 pc
theorem xbl_93 : xBody 93 := fun pc => xbody_all (lo := xc93) (hi := xh93) (by decide) xb_93 pc
theorem xbl_94 : xBody 94 := fun pc => xbody_all (lo := xc94) (hi := xh94) (by decide) xb_94 pc
theorem xbl_95 : xBody 95 := fun pc => xbody_all (lo := xc95) (hi := xh95) (by decide) xb_95 pc
theorem xbl_96 : xBody 96 := fun pc => xbody_all (lo := xc96) (hi := xh96) (by decide) xb_96 pc
theorem xbl_97 : xBody 97 := fun pc => xbody_all (lo := xc97) (hi := xh97) (by decide) xb_97 pc
theorem xbl_98 : xBody 98 := fun pc => xbody_all (lo := xc98) (hi := xh98) (by decide) xb_98 pc
theorem xbl_99 : xBody 99 := fun pc => xbody_all (lo := xc99) (hi := xh99) (by decide) xb_99 pc
theorem xbl_100 : xBody 100 := fun pc => xbody_all (lo := xc100) (hi := xh100) (by decide) xb_100 pc
theorem xbl_101 : xBody 101 := fun pc => xbody_all (lo := xc101) (hi := xh101) (by decide) xb_101 pc
theorem xbl_102 : xBody 102 := fun pc => xbody_all (lo := xc102) (hi := xh102) (by decide) xb_102 pc
theorem xbl_103 : xBody 103 := fun pc => xbody_all (lo := xc103) (hi := xh103) (by decide) xb_103 pc
theorem xbl_104 : xBody 104 := fun pc => xbody_all (lo := xc104) (hi := xh104) (by decide) xb_104 pc
theorem xbl_105 : xBody 105 := fun pc => xbody_all (lo := xc105) (hi := xh105) (by decide) xb_105 pc
theorem xbl_106 : xBody 106 := fun pc => xbody_all (lo := xc106) (hi := xh106) (by decide) xb_106 pc
theorem xbl_107 : xBody 107 := fun pc => xbody_all (lo := xc107) (hi := xh107) (by decide) xb_107 pc
theorem xbl_108 : xBody 108 := fun pc => xbody_all (lo := xc108) (hi := xh108) (by decide) xb_108 pc
theorem xbl_109 : xBody 109 := fun pc => xbody_all (lo := xc109) (hi := xh109) (by decide) xb_109 pc
theorem xbl_110 : xBody 110 := fun pc => xbody_all (lo := xc110) (hi := xh110) (by decide) xb_110 pc
theorem xbl_111 : xBody 111 := fun pc => xbody_all (lo := xc111) (hi := xh111) (by decide) xb_111 pc
theorem xbl_112 : xBody 112 := fun pc => xbody_all (lo := xc112) (hi := xh112) (by decide) xb_112 pc
theorem xbl_113 : xBody 113 := fun pc => xbody_all (lo := xc113) (hi := xh113) (by decide) xb_113 pc
theorem xbl_114 : xBody 114 := fun pc => xbody_all (lo := xc114) (hi := xh114) (by decide) xb_114 pc
theorem xbl_115 : xBody 115 := fun pc => xbody_all (lo := xc115) (hi := xh115) (by decide) xb_115 pc
theorem xbl_116 : xBody 116 := fun pc => xbody_all (lo := xc116) (hi := xh116) (by decide) xb_116 pc
theorem xbl_117 : xBody 117 := fun pc => xbody_all (lo := xc117) (hi := xh117) (by decide) xb_117 pc
theorem xbl_118 : xBody 118 := fun pc => xbody_all (lo := xc118) (hi := xh118) (by decide) xb_118 pc
theorem xbl_119 : xBody 119 := fun pc => xbody_all (lo := xc119) (hi := xh119) (by decide) xb_119 pc
theorem xbl_120 : xBody 120 := fun pc => xbody_all (lo := xc120) (hi := xh120) (by decide) xb_120 pc
theorem xbl_121 : xBody 121 := fun pc => xbody_all (lo := xc121) (hi := xh121) (by decide) xb_121 pc
theorem xbl_122 : xBody 122 := fun pc => xbody_all (lo := xc122) (hi := xh122) (by decide) xb_122 pc
theorem xbl_123 : xBody 123 := fun pc => xbody_all (lo := xc123) (hi := xh123) (by decide) xb_123 pc
theorem xbl_124 : xBody 124 := fun pc => xbody_all (lo := xc124) (hi := xh124) (by decide) xb_124 pc
theorem xbl_125 : xBody 125 := fun pc => xbody_all (lo := xc125) (hi := xh125) (by decide) xb_125 pc
theorem xbl_126 : xBody 126 := fun pc => xbody_all (lo := xc126) (hi := xh126) (by decide) xb_126 pc
theorem xbl_127 : xBody 127 := fun pc => xbody_all (lo := xc127) (hi := xh127) (by decide) xb_127 pc
theorem xbl_128 : xBody 128 := fun pc => xbody_all (lo := xc128) (hi := xh128) (by decide) xb_128 pc
theorem xbl_129 : xBody 129 := fun pc => xbody_all (lo := xc129) (hi := xh129) (by decide) xb_129 pc
theorem xbl_130 : xBody 130 := fun pc => xbody_all (lo := xc130) (hi := xh130) (by decide) xb_130 pc
theorem xbl_131 : xBody 131 := fun pc => xbody_all (lo := xc131) (hi := xh131) (by decide) xb_131 pc
theorem xbl_132 : xBody 132 := fun pc => xbody_all (lo := xc132) (hi := xh132) (by decide) xb_132 pc
theorem xbl_133 : xBody 133 := fun pc => xbody_all (lo := xc133) (hi := xh133) (by decide) xb_133 pc
theorem xbl_134 : xBody 134 := fun pc => xbody_all (lo := xc134) (hi := xh134) (by decide) xb_134 pc
theorem xbl_135 : xBody 135 := fun pc => xbody_all (lo := xc135) (hi := xh135) (by decide) xb_135 pc
theorem xbl_136 : xBody 136 := fun pc => xbody_all (lo := xc136) (hi := xh136) (by decide) xb_136 pc
theorem xbl_137 : xBody 137 := fun pc => xbody_all (lo := xc137) (hi := xh137) (by decide) xb_137 pc
theorem xbl_138 : xBody 138 := fun pc => xbody_all (lo := xc138) (hi := xh138) (by decide) xb_138 pc
theorem xbl_139 : xBody 139 := fun pc => xbody_all (lo := xc139) (hi := xh139) (by decide) xb_139 pc
theorem xbl_140 : xBody 140 := fun pc => xbody_all (lo := xc140) (hi := xh140) (by decide) xb_140 pc
theorem xbl_141 : xBody 141 := fun pc => xbody_all (lo := xc141) (hi := xh141) (by decide) xb_141 pc
theorem xbl_142 : xBody 142 := fun pc => xbody_all (lo := xc142) (hi := xh142) (by decide) xb_142 pc
theorem xbl_143 : xBody 143 := fun pc => xbody_all (lo := xc143) (hi := xh143) (by decide) xb_143 pc
theorem xbl_144 : xBody 144 := fun pc => xbody_all (lo := xc144) (hi := xh144) (by decide) xb_144 pc
theorem xbl_145 : xBody 145 := fun pc => xbody_all (lo := xc145) (hi := xh145) (by decide) xb_145 pc
theorem xbl_146 : xBody 146 := fun pc => xbody_all (lo := xc146) (hi := xh146) (by decide) xb_146 pc
theorem xbl_147 : xBody 147 := fun pc => xbody_all (lo := xc147) (hi := xh147) (by decide) xb_147 pc
theorem xbl_148 : xBody 148 := fun pc => xbody_all (lo := xc148) (hi := xh148) (by decide) xb_148 pc
theorem xbl_149 : xBody 149 := fun pc => xbody_all (lo := xc149) (hi := xh149) (by decide) xb_149 pc
theorem xbl_150 : xBody 150 := fun pc => xbody_all (lo := xc150) (hi := xh150) (by decide) xb_150 pc
theorem xbl_151 : xBody 151 := fun pc => xbody_all (lo := xc151) (hi := xh151) (by decide) xb_151 pc
theorem xbl_152 : xBody 152 := fun pc => xbody_all (lo := xc152) (hi := xh152) (by decide) xb_152 pc
theorem xbl_153 : xBody 153 := fun pc => xbody_all (lo := xc153) (hi := xh153) (by decide) xb_153 pc
theorem xbl_154 : xBody 154 := fun pc => xbody_all (lo := xc154) (hi := xh154) (by decide) xb_154 pc
theorem xbl_155 : xBody 155 := fun pc => xbody_all (lo := xc155) (hi := xh155) (by decide) xb_155 pc
theorem xbl_156 : xBody 156 := fun pc => xbody_all (lo := xc156) (hi := xh156) (by decide) xb_156 pc
theorem xbl_157 : xBody 157 := fun pc => xbody_all (lo := xc157) (hi := xh157) (by decide) xb_157 pc
theorem xbl_158 : xBody 158 := fun pc => xbody_all (lo := xc158) (hi := xh158) (by decide) xb_158 pc
theorem xbl_159 : xBody 159 := fun pc => xbody_all (lo := xc159) (hi := xh159) (by decide) xb_159 pc
theorem xbl_160 : xBody 160 := fun pc => xbody_all (lo := xc160) (hi := xh160) (by decide) xb_160 pc
theorem xbl_161 : xBody 161 := fun pc => xbody_all (lo := xc161) (hi := xh161) (by decide) xb_161 pc
theorem xbl_162 : xBody 162 := fun pc => xbody_all (lo := xc162) (hi := xh162) (by decide) xb_162 pc
theorem xbl_163 : xBody 163 := fun pc => xbody_all (lo := xc163) (hi := xh163) (by decide) xb_163 pc
theorem xbl_164 : xBody 164 := fun pc => xbody_all (lo := xc164) (hi := xh164) (by decide) xb_164 pc
theorem xbl_165 : xBody 165 := fun pc => xbody_all (lo := xc165) (hi := xh165) (by decide) xb_165 pc
theorem xbl_166 : xBody 166 := fun pc => xbody_all (lo := xc166) (hi := xh166) (by decide) xb_166 pc
theorem xbl_167 : xBody 167 := fun pc => xbody_all (lo := xc167) (hi := xh167) (by decide) xb_167 pc
theorem xbl_168 : xBody 168 := fun pc => xbody_all (lo := xc168) (hi := xh168) (by decide) xb_168 pc
theorem xbl_169 : xBody 169 := fun pc => xbody_all (lo := xc169) (hi := xh169) (by decide) xb_169 pc
theorem xbl_170 : xBody 170 := fun pc => xbody_all (lo := xc170) (hi := xh170) (by decide) xb_170 pc
theorem xbl_171 : xBody 171 := fun pc => xbody_all (lo := xc171) (hi := xh171) (by decide) xb_171 pc
theorem xbl_172 : xBody 172 := fun pc => xbody_all (lo := xc172) (hi := xh172) (by decide) xb_172 pc
theorem xbl_173 : xBody 173 := fun pc => xbody_all (lo := xc173) (hi := xh173) (by decide) xb_173 pc
theorem xbl_174 : xBody 174 := fun pc => xbody_all (lo := xc174) (hi := xh174) (by decide) xb_174 pc
theorem xbl_175 : xBody 175 := fun pc => xbody_all (lo := xc175) (hi := xh175) (by decide) xb_175 pc
theorem xbl_176 : xBody 176 := fun pc => xbody_all (lo := xc176) (hi := xh176) (by decide) xb_176 pc
theorem xbl_177 : xBody 177 := fun pc => xbody_all (lo := xc177) (hi := xh177) (by decide) xb_177 pc
theorem xbl_178 : xBody 178 := fun pc => xbody_all (lo := xc178) (hi := xh178) (by decide) xb_178 pc
theorem xbl_179 : xBody 179 := fun pc => xbody_all (lo := xc179) (hi := xh179) (by decide) xb_179 pc
theorem xbl_180 : xBody 180 := fun pc => xbody_all (lo := xc180) (hi := xh180) (by decide) xb_180 pc
theorem xbl_181 : xBody 181 := fun pc => xbody_all (lo := xc181) (hi := xh181) (by decide) xb_181 pc
theorem xbl_182 : xBody 182 := fun pc => xbody_all (lo := xc182) (hi := xh182) (by decide) xb_182 pc
theorem xbl_183 : xBody 183 := fun pc => xbody_all (lo := xc183) (hi := xh183) (by decide) xb_183 pc
theorem xbl_184 : xBody 184 := fun pc => xbody_all (lo := xc184) (hi := xh184) (by decide) xb_184 pc
theorem xbl_185 : xBody 185 := fun pc => xbody_all (lo := xc185) (hi := xh185) (by decide) xb_185 pc
theorem xbl_186 : xBody 186 := fun pc => xbody_all (lo := xc186) (hi := xh186) (by decide) xb_186 pc
theorem xbl_187 : xBody 187 := fun pc => xbody_all (lo := xc187) (hi := xh187) (by decide) xb_187 pc
theorem xbl_188 : xBody 188 := fun pc => xbody_all (lo := xc188) (hi := xh188) (by decide) xb_188 pc
theorem xbl_189 : xBody 189 := fun pc => xbody_all (lo := xc189) (hi := xh189) (by decide) xb_189 pc
theorem xbl_190 : xBody 190 := fun pc => xbody_all (lo := xc190) (hi := xh190) (by decide) xb_190 pc
theorem xbl_191 : xBody 191 := fun pc => xbody_all (lo := xc191) (hi := xh191) (by decide) xb_191 pc
theorem xbl_192 : xBody 192 := fun pc => xbody_all (lo := xc192) (hi := xh192) (by decide) xb_192 pc
theorem xbl_193 : xBody 193 := fun pc => xbody_all (lo := xc193) (hi := xh193) (by decide) xb_193 pc
theorem xbl_194 : xBody 194 := fun pc => xbody_all (lo := xc194) (hi := xh194) (by decide) xb_194 pc
theorem xbl_195 : xBody 195 := fun pc => xbody_all (lo := xc195) (hi := xh195) (by decide) xb_195 pc
theorem xbl_196 : xBody 196 := fun pc => xbody_all (lo := xc196) (hi := xh196) (by decide) xb_196 pc
theorem xbl_197 : xBody 197 := fun pc => xbody_all (lo := xc197) (hi := xh197) (by decide) xb_197 pc
theorem xbl_198 : xBody 198 := fun pc => xbody_all (lo := xc198) (hi := xh198) (by decide) xb_198 pc
theorem xbl_199 : xBody 199 := fun pc => xbody_all (lo := xc199) (hi := xh199) (by decide) xb_199 pc
theorem xbl_200 : xBody 200 := fun pc => xbody_all (lo := xc200) (hi := xh200) (by decide) xb_200 pc
theorem xbl_201 : xBody 201 := fun pc => xbody_all (lo := xc201) (hi := xh201) (by decide) xb_201 pc
theorem xbl_202 : xBody 202 := fun pc => xbody_all (lo := xc202) (hi := xh202) (by decide) xb_202 pc
theorem xbl_203 : xBody 203 := fun pc => xbody_all (lo := xc203) (hi := xh203) (by decide) xb_203 pc
theorem xbl_204 : xBody 204 := fun pc => xbody_all (lo := xc204) (hi := xh204) (by decide) xb_204 pc
theorem xbl_205 : xBody 205 := fun pc => xbody_all (lo := xc205) (hi := xh205) (by decide) xb_205 pc
theorem xbl_206 : xBody 206 := fun pc => xbody_all (lo := xc206) (hi := xh206) (by decide) xb_206 pc
theorem xbl_207 : xBody 207 := fun pc => xbody_all (lo := xc207) (hi := xh207) (by decide) xb_207 pc
theorem xbl_208 : xBody 208 := fun pc => xbody_all (lo := xc208) (hi := xh208) (by decide) xb_208 pc
theorem xbl_209 : xBody 209 := fun pc => xbody_all (lo := xc209) (hi := xh209) (by decide) xb_209 pc
theorem xbl_210 : xBody 210 := fun pc => xbody_all (lo := xc210) (hi := xh210) (by decide) xb_210 pc
theorem xbl_211 : xBody 211 := fun pc => xbody_all (lo := xc211) (hi := xh211) (by decide) xb_211 pc
theorem xbl_212 : xBody 212 := fun pc => xbody_all (lo := xc212) (hi := xh212) (by decide) xb_212 pc
theorem xbl_213 : xBody 213 := fun pc => xbody_all (lo := xc213) (hi := xh213) (by decide) xb_213 pc
theorem xbl_214 : xBody 214 := fun pc => xbody_all (lo := xc214) (hi := xh214) (by decide) xb_214 pc
theorem xbl_215 : xBody 215 := fun pc => xbody_all (lo := xc215) (hi := xh215) (by decide) xb_215 pc
theorem xbl_216 : xBody 216 := fun pc => xbody_all (lo := xc216) (hi := xh216) (by decide) xb_216 pc
theorem xbl_217 : xBody 217 := fun pc => xbody_all (lo := xc217) (hi := xh217) (by decide) xb_217 pc
theorem xbl_218 : xBody 218 := fun pc => xbody_all (lo := xc218) (hi := xh218) (by decide) xb_218 pc
theorem xbl_219 : xBody 219 := fun pc => xbody_all (lo := xc219) (hi := xh219) (by decide) xb_219 pc
theorem xbl_220 : xBody 220 := fun pc => xbody_all (lo := xc220) (hi := xh220) (by decide) xb_220 pc
theorem xbl_221 : xBody 221 := fun pc => xbody_all (lo := xc221) (hi := xh221) (by decide) xb_221 pc
theorem xbl_222 : xBody 222 := fun pc => xbody_all (lo := xc222) (hi := xh222) (by decide) xb_222 pc
theorem xbl_223 : xBody 223 := fun pc => xbody_all (lo := xc223) (hi := xh223) (by decide) xb_223 pc
theorem xbl_224 : xBody 224 := fun pc => xbody_all (lo := xc224) (hi := xh224) (by decide) xb_224 pc
theorem xbl_225 : xBody 225 := fun pc => xbody_all (lo := xc225) (hi := xh225) (by decide) xb_225 pc
theorem xbl_226 : xBody 226 := fun pc => xbody_all (lo := xc226) (hi := xh226) (by decide) xb_226 pc
theorem xbl_227 : xBody 227 := fun pc => xbody_all (lo := xc227) (hi := xh227) (by decide) xb_227 pc
theorem xbl_228 : xBody 228 := fun pc => xbody_all (lo := xc228) (hi := xh228) (by decide) xb_228 pc
theorem xbl_229 : xBody 229 := fun pc => xbody_all (lo := xc229) (hi := xh229) (by decide) xb_229 pc
theorem xbl_230 : xBody 230 := fun pc => xbody_all (lo := xc230) (hi := xh230) (by decide) xb_230 pc
theorem xbl_231 : xBody 231 := fun pc => xbody_all (lo := xc231) (hi := xh231) (by decide) xb_231 pc
theorem xbl_232 : xBody 232 := fun pc => xbody_all (lo := xc232) (hi := xh232) (by decide) xb_232 pc
theorem xbl_233 : xBody 233 := fun pc => xbody_all (lo := xc233) (hi := xh233) (by decide) xb_233 pc
theorem xbl_234 : xBody 234 := fun pc => xbody_all (lo := xc234) (hi := xh234) (by decide) xb_234 pc
theorem xbl_235 : xBody 235 := fun pc => xbody_all (lo := xc235) (hi := xh235) (by decide) xb_235 pc
theorem xbl_236 : xBody 236 := fun pc => xbody_all (lo := xc236) (hi := xh236) (by decide) xb_236 pc
theorem xbl_237 : xBody 237 := fun pc => xbody_all (lo := xc237) (hi := xh237) (by decide) xb_237 pc
theorem xbl_238 : xBody 238 := fun pc => xbody_all (lo := xc238) (hi := xh238) (by decide) xb_238 pc
theorem xbl_239 : xBody 239 := fun pc => xbody_all (lo := xc239) (hi := xh239) (by decide) xb_239 pc
theorem xbl_240 : xBody 240 := fun pc => xbody_all (lo := xc240) (hi := xh240) (by decide) xb_240 pc
theorem xbl_241 : xBody 241 := fun pc => xbody_all (lo := xc241) (hi := xh241) (by decide) xb_241 pc
theorem xbl_242 : xBody 242 := fun pc => xbody_all (lo := xc242) (hi := xh242) (by decide) xb_242 pc
theorem xbl_243 : xBody 243 := fun pc => xbody_all (lo := xc243) (hi := xh243) (by decide) xb_243 pc
theorem xbl_244 : xBody 244 := fun pc => xbody_all (lo := xc244) (hi := xh244) (by decide) xb_244 pc
theorem xbl_245 : xBody 245 := fun pc => xbody_all (lo := xc245) (hi := xh245) (by decide) xb_245 pc
theorem xbl_246 : xBody 246 := fun pc => xbody_all (lo := xc246) (hi := xh246) (by decide) xb_246 pc
theorem xbl_247 : xBody 247 := fun pc => xbody_all (lo := xc247) (hi := xh247) (by decide) xb_247 pc
theorem xbl_248 : xBody 248 := fun pc => xbody_all (lo := xc248) (hi := xh248) (by decide) xb_248 pc
theorem xbl_249 : xBody 249 := fun pc => xbody_all (lo := xc249) (hi := xh249) (by decide) xb_249 pc
theorem xbl_250 : xBody 250 := fun pc => xbody_all (lo := xc250) (hi := xh250) (by decide) xb_250 pc
theorem xbl_251 : xBody 251 := fun pc => xbody_all (lo := xc251) (hi := xh251) (by decide) xb_251 pc
theorem xbl_252 : xBody 252 := fun pc => xbody_all (lo := xc252) (hi := xh252) (by decide) xb_252 pc
theorem xbl_253 : xBody 253 := fun pc => xbody_all (lo := xc253) (hi := xh253) (by decide) xb_253 pc
theorem xbl_254 : xBody 254 := fun pc => xbody_all (lo := xc254) (hi := xh254) (by decide) xb_254 pc
theorem xbl_255 : xBody 255 := fun pc => xbody_all (lo := xc255) (hi := xh255) (by decide) xb_255 pc
theorem xbl_256 : xBody 256 := fun pc => xbody_all (lo := xc256) (hi := xh256) (by decide) xb_256 pc
theorem xbl_257 : xBody 257 := fun pc => xbody_all (lo := xc257) (hi := xh257) (by decide) xb_257 pc
theorem xbl_258 : xBody 258 := fun pc => xbody_all (lo := xc258) (hi := xh258) (by decide) xb_258 pc
theorem xbl_259 : xBody 259 := fun pc => xbody_all (lo := xc259) (hi := xh259) (by decide) xb_259 pc
theorem xbl_260 : xBody 260 := fun pc => xbody_all (lo := xc260) (hi := xh260) (by decide) xb_260 pc
theorem xbl_261 : xBody 261 := fun pc => xbody_all (lo := xc261) (hi := xh261) (by decide) xb_261 pc
theorem xbl_262 : xBody 262 := fun pc => xbody_all (lo := xc262) (hi := xh262) (by decide) xb_262 pc
theorem xbl_263 : xBody 263 := fun pc => xbody_all (lo := xc263) (hi := xh263) (by decide) xb_263 pc
theorem xbl_264 : xBody 264 := fun pc => xbody_all (lo := xc264) (hi := xh264) (by decide) xb_264 pc
theorem xbl_265 : xBody 265 := fun pc => xbody_all (lo := xc265) (hi := xh265) (by decide) xb_265 pc
theorem xbp_0 (y : Nat) (h : 0 ≤ y) (h2 : y < 34) : xBody y := by
  rcases Nat.lt_or_ge y 17 with h1 | h1
  · rcases Nat.lt_or_ge y 8 with h2 | h2
    · rcases Nat.lt_or_ge y 4 with h3 | h3
      · rcases Nat.lt_or_ge y 2 with h4 | h4
        · rcases Nat.lt_or_ge y 1 with h5 | h5
          · have e : y = 0 := by omega
            subst e
            exact xbl_0
          · have e : y = 1 := by omega
            subst e
            exact xbl_1
        · rcases Nat.lt_or_ge y 3 with h5 | h5
          · have e : y = 2 := by omega
            subst e
            exact xbl_2
          · have e : y = 3 := by omega
            subst e
            exact xbl_3
      · rcases Nat.lt_or_ge y 6 with h4 | h4
        · rcases Nat.lt_or_ge y 5 with h5 | h5
          · have e : y = 4 := by omega
            subst e
            exact xbl_4
          · have e : y = 5 := by omega
            subst e
            exact xbl_5
        · rcases Nat.lt_or_ge y 7 with h5 | h5
          · have e : y = 6 := by omega
            subst e
            exact xbl_6
          · have e : y = 7 := by omega
            subst e
            exact xbl_7
    · rcases Nat.lt_or_ge y 12 with h3 | h3
      · rcases Nat.lt_or_ge y 10 with h4 | h4
        · rcases Nat.lt_or_ge y 9 with h5 | h5
          · have e : y = 8 := by omega
            subst e
            exact xbl_8
          · have e : y = 9 := by omega
            subst e
            exact xbl_9
        · rcases Nat.lt_or_ge y 11 with h5 | h5
          · have e : y = 10 := by omega
            subst e
            exact xbl_10
          · have e : y = 11 := by omega
            subst e
            exact xbl_11
      · rcases Nat.lt_or_ge y 14 with h4 | h4
        · rcases Nat.lt_or_ge y 13 with h5 | h5
          · have e : y = 12 := by omega
            subst e
            exact xbl_12
          · have e : y = 13 := by omega
            subst e
            exact xbl_13
        · rcases Nat.lt_or_ge y 15 with h5 | h5
          · have e : y = 14 := by omega
            subst e
            exact xbl_14
          · rcases Nat.lt_or_ge y 16 with h6 | h6
            · have e : y = 15 := by omega
              subst e
              exact xbl_15
            · have e : y = 16 := by omega
              subst e
              exact xbl_16
  · rcases Nat.lt_or_ge y 25 with h2 | h2
    · rcases Nat.lt_or_ge y 21 with h3 | h3
      · rcases Nat.lt_or_ge y 19 with h4 | h4
        · rcases Nat.lt_or_ge y 18 with h5 | h5
          · have e : y = 17 := by omega
            subst e
            exact xbl_17
          · have e : y = 18 := by omega
            subst e
            exact xbl_18
        · rcases Nat.lt_or_ge y 20 with h5 | h5
          · have e : y = 19 := by omega
            subst e
            exact xbl_19
          · have e : y = 20 := by omega
            subst e
            exact xbl_20
      · rcases Nat.lt_or_ge y 23 with h4 | h4
        · rcases Nat.lt_or_ge y 22 with h5 | h5
          · have e : y = 21 := by omega
            subst e
            exact xbl_21
          · have e : y = 22 := by omega
            subst e
            exact xbl_22
        · rcases Nat.lt_or_ge y 24 with h5 | h5
          · have e : y = 23 := by omega
            subst e
            exact xbl_23
          · have e : y = 24 := by omega
            subst e
            exact xbl_24
    · rcases Nat.lt_or_ge y 29 with h3 | h3
      · rcases Nat.lt_or_ge y 27 with h4 | h4
        · rcases Nat.lt_or_ge y 26 with h5 | h5
          · have e : y = 25 := by omega
            subst e
            exact xbl_25
          · have e : y = 26 := by omega
            subst e
            exact xbl_26
        · rcases Nat.lt_or_ge y 28 with h5 | h5
          · have e : y = 27 := by omega
            subst e
            exact xbl_27
          · have e : y = 28 := by omega
            subst e
            exact xbl_28
      · rcases Nat.lt_or_ge y 31 with h4 | h4
        · rcases Nat.lt_or_ge y 30 with h5 | h5
          · have e : y = 29 := by omega
            subst e
            exact xbl_29
          · have e : y = 30 := by omega
            subst e
            exact xbl_30
        · rcases Nat.lt_or_ge y 32 with h5 | h5
          · have e : y = 31 := by omega
            subst e
            exact xbl_31
          · rcases Nat.lt_or_ge y 33 with h6 | h6
            · have e : y = 32 := by omega
              subst e
              exact xbl_32
            · have e : y = 33 := by omega
              subst e
              exact xbl_33
theorem xbp_1 (y : Nat) (h : 34 ≤ y) (h2 : y < 68) : xBody y := by
  rcases Nat.lt_or_ge y 51 with h1 | h1
  · rcases Nat.lt_or_ge y 42 with h2 | h2
    · rcases Nat.lt_or_ge y 38 with h3 | h3
      · rcases Nat.lt_or_ge y 36 with h4 | h4
        · rcases Nat.lt_or_ge y 35 with h5 | h5
          · have e : y = 34 := by omega
            subst e
            exact xbl_34
          · have e : y = 35 := by omega
            subst e
            exact xbl_35
        · rcases Nat.lt_or_ge y 37 with h5 | h5
          · have e : y = 36 := by omega
            subst e
            exact xbl_36
          · have e : y = 37 := by omega
            subst e
            exact xbl_37
      · rcases Nat.lt_or_ge y 40 with h4 | h4
        · rcases Nat.lt_or_ge y 39 with h5 | h5
          · have e : y = 38 := by omega
            subst e
            exact xbl_38
          · have e : y = 39 := by omega
            subst e
            exact xbl_39
        · rcases Nat.lt_or_ge y 41 with h5 | h5
          · have e : y = 40 := by omega
            subst e
            exact xbl_40
          · have e : y = 41 := by omega
            subst e
            exact xbl_41
    · rcases Nat.lt_or_ge y 46 with h3 | h3
      · rcases Nat.lt_or_ge y 44 with h4 | h4
        · rcases Nat.lt_or_ge y 43 with h5 | h5
          · have e : y = 42 := by omega
            subst e
            exact xbl_42
          · have e : y = 43 := by omega
            subst e
            exact xbl_43
        · rcases Nat.lt_or_ge y 45 with h5 | h5
          · have e : y = 44 := by omega
            subst e
            exact xbl_44
          · have e : y = 45 := by omega
            subst e
            exact xbl_45
      · rcases Nat.lt_or_ge y 48 with h4 | h4
        · rcases Nat.lt_or_ge y 47 with h5 | h5
          · have e : y = 46 := by omega
            subst e
            exact xbl_46
          · have e : y = 47 := by omega
            subst e
            exact xbl_47
        · rcases Nat.lt_or_ge y 49 with h5 | h5
          · have e : y = 48 := by omega
            subst e
            exact xbl_48
          · rcases Nat.lt_or_ge y 50 with h6 | h6
            · have e : y = 49 := by omega
              subst e
              exact xbl_49
            · have e : y = 50 := by omega
              subst e
              exact xbl_50
  · rcases Nat.lt_or_ge y 59 with h2 | h2
    · rcases Nat.lt_or_ge y 55 with h3 | h3
      · rcases Nat.lt_or_ge y 53 with h4 | h4
        · rcases Nat.lt_or_ge y 52 with h5 | h5
          · have e : y = 51 := by omega
            subst e
            exact xbl_51
          · have e : y = 52 := by omega
            subst e
            exact xbl_52
        · rcases Nat.lt_or_ge y 54 with h5 | h5
          · have e : y = 53 := by omega
            subst e
            exact xbl_53
          · have e : y = 54 := by omega
            subst e
            exact xbl_54
      · rcases Nat.lt_or_ge y 57 with h4 | h4
        · rcases Nat.lt_or_ge y 56 with h5 | h5
          · have e : y = 55 := by omega
            subst e
            exact xbl_55
          · have e : y = 56 := by omega
            subst e
            exact xbl_56
        · rcases Nat.lt_or_ge y 58 with h5 | h5
          · have e : y = 57 := by omega
            subst e
            exact xbl_57
          · have e : y = 58 := by omega
            subst e
            exact xbl_58
    · rcases Nat.lt_or_ge y 63 with h3 | h3
      · rcases Nat.lt_or_ge y 61 with h4 | h4
        · rcases Nat.lt_or_ge y 60 with h5 | h5
          · have e : y = 59 := by omega
            subst e
            exact xbl_59
          · have e : y = 60 := by omega
            subst e
            exact xbl_60
        · rcases Nat.lt_or_ge y 62 with h5 | h5
          · have e : y = 61 := by omega
            subst e
            exact xbl_61
          · have e : y = 62 := by omega
            subst e
            exact xbl_62
      · rcases Nat.lt_or_ge y 65 with h4 | h4
        · rcases Nat.lt_or_ge y 64 with h5 | h5
          · have e : y = 63 := by omega
            subst e
            exact xbl_63
          · have e : y = 64 := by omega
            subst e
            exact xbl_64
        · rcases Nat.lt_or_ge y 66 with h5 | h5
          · have e : y = 65 := by omega
            subst e
            exact xbl_65
          · rcases Nat.lt_or_ge y 67 with h6 | h6
            · have e : y = 66 := by omega
              subst e
              exact xbl_66
            · have e : y = 67 := by omega
              subst e
              exact xbl_67
theorem xbp_2 (y : Nat) (h : 68 ≤ y) (h2 : y < 102) : xBody y := by
  rcases Nat.lt_or_ge y 85 with h1 | h1
  · rcases Nat.lt_or_ge y 76 with h2 | h2
    · rcases Nat.lt_or_ge y 72 with h3 | h3
      · rcases Nat.lt_or_ge y 70 with h4 | h4
        · rcases Nat.lt_or_ge y 69 with h5 | h5
          · have e : y = 68 := by omega
            subst e
            exact xbl_68
          · have e : y = 69 := by omega
            subst e
            exact xbl_69
        · rcases Nat.lt_or_ge y 71 with h5 | h5
          · have e : y = 70 := by omega
            subst e
            exact xbl_70
          · have e : y = 71 := by omega
            subst e
            exact xbl_71
      · rcases Nat.lt_or_ge y 74 with h4 | h4
        · rcases Nat.lt_or_ge y 73 with h5 | h5
          · have e : y = 72 := by omega
            subst e
            exact xbl_72
          · have e : y = 73 := by omega
            subst e
            exact xbl_73
        · rcases Nat.lt_or_ge y 75 with h5 | h5
          · have e : y = 74 := by omega
            subst e
            exact xbl_74
          · have e : y = 75 := by omega
            subst e
            exact xbl_75
    · rcases Nat.lt_or_ge y 80 with h3 | h3
      · rcases Nat.lt_or_ge y 78 with h4 | h4
        · rcases Nat.lt_or_ge y 77 with h5 | h5
          · have e : y = 76 := by omega
            subst e
            exact xbl_76
          · have e : y = 77 := by omega
            subst e
            exact xbl_77
        · rcases Nat.lt_or_ge y 79 with h5 | h5
          · have e : y = 78 := by omega
            subst e
            exact xbl_78
          · have e : y = 79 := by omega
            subst e
            exact xbl_79
      · rcases Nat.lt_or_ge y 82 with h4 | h4
        · rcases Nat.lt_or_ge y 81 with h5 | h5
          · have e : y = 80 := by omega
            subst e
            exact xbl_80
          · have e : y = 81 := by omega
            subst e
            exact xbl_81
        · rcases Nat.lt_or_ge y 83 with h5 | h5
          · have e : y = 82 := by omega
            subst e
            exact xbl_82
          · rcases Nat.lt_or_ge y 84 with h6 | h6
            · have e : y = 83 := by omega
              subst e
              exact xbl_83
            · have e : y = 84 := by omega
              subst e
              exact xbl_84
  · rcases Nat.lt_or_ge y 93 with h2 | h2
    · rcases Nat.lt_or_ge y 89 with h3 | h3
      · rcases Nat.lt_or_ge y 87 with h4 | h4
        · rcases Nat.lt_or_ge y 86 with h5 | h5
          · have e : y = 85 := by omega
            subst e
            exact xbl_85
          · have e : y = 86 := by omega
            subst e
            exact xbl_86
        · rcases Nat.lt_or_ge y 88 with h5 | h5
          · have e : y = 87 := by omega
            subst e
            exact xbl_87
          · have e : y = 88 := by omega
            subst e
            exact xbl_88
      · rcases Nat.lt_or_ge y 91 with h4 | h4
        · rcases Nat.lt_or_ge y 90 with h5 | h5
          · have e : y = 89 := by omega
            subst e
            exact xbl_89
          · have e : y = 90 := by omega
            subst e
            exact xbl_90
        · rcases Nat.lt_or_ge y 92 with h5 | h5
          · have e : y = 91 := by omega
            subst e
            exact xbl_91
          · have e : y = 92 := by omega
            subst e
            exact xbl_92
    · rcases Nat.lt_or_ge y 97 with h3 | h3
      · rcases Nat.lt_or_ge y 95 with h4 | h4
        · rcases Nat.lt_or_ge y 94 with h5 | h5
          · have e : y = 93 := by omega
            subst e
            exact xbl_93
          · have e : y = 94 := by omega
            subst e
            exact xbl_94
        · rcases Nat.lt_or_ge y 96 with h5 | h5
          · have e : y = 95 := by omega
            subst e
            exact xbl_95
          · have e : y = 96 := by omega
            subst e
            exact xbl_96
      · rcases Nat.lt_or_ge y 99 with h4 | h4
        · rcases Nat.lt_or_ge y 98 with h5 | h5
          · have e : y = 97 := by omega
            subst e
            exact xbl_97
          · have e : y = 98 := by omega
            subst e
            exact xbl_98
        · rcases Nat.lt_or_ge y 100 with h5 | h5
          · have e : y = 99 := by omega
            subst e
            exact xbl_99
          · rcases Nat.lt_or_ge y 101 with h6 | h6
            · have e : y = 100 := by omega
              subst e
              exact xbl_100
            · have e : y = 101 := by omega
              subst e
              exact xbl_101
theorem xbp_3 (y : Nat) (h : 102 ≤ y) (h2 : y < 136) : xBody y := by
  rcases Nat.lt_or_ge y 119 with h1 | h1
  · rcases Nat.lt_or_ge y 110 with h2 | h2
    · rcases Nat.lt_or_ge y 106 with h3 | h3
      · rcases Nat.lt_or_ge y 104 with h4 | h4
        · rcases Nat.lt_or_ge y 103 with h5 | h5
          · have e : y = 102 := by omega
            subst e
            exact xbl_102
          · have e : y = 103 := by omega
            subst e
            exact xbl_103
        · rcases Nat.lt_or_ge y 105 with h5 | h5
          · have e : y = 104 := by omega
            subst e
            exact xbl_104
          · have e : y = 105 := by omega
            subst e
            exact xbl_105
      · rcases Nat.lt_or_ge y 108 with h4 | h4
        · rcases Nat.lt_or_ge y 107 with h5 | h5
          · have e : y = 106 := by omega
            subst e
            exact xbl_106
          · have e : y = 107 := by omega
            subst e
            exact xbl_107
        · rcases Nat.lt_or_ge y 109 with h5 | h5
          · have e : y = 108 := by omega
            subst e
            exact xbl_108
          · have e : y = 109 := by omega
            subst e
            exact xbl_109
    · rcases Nat.lt_or_ge y 114 with h3 | h3
      · rcases Nat.lt_or_ge y 112 with h4 | h4
        · rcases Nat.lt_or_ge y 111 with h5 | h5
          · have e : y = 110 := by omega
            subst e
            exact xbl_110
          · have e : y = 111 := by omega
            subst e
            exact xbl_111
        · rcases Nat.lt_or_ge y 113 with h5 | h5
          · have e : y = 112 := by omega
            subst e
            exact xbl_112
          · have e : y = 113 := by omega
            subst e
            exact xbl_113
      · rcases Nat.lt_or_ge y 116 with h4 | h4
        · rcases Nat.lt_or_ge y 115 with h5 | h5
          · have e : y = 114 := by omega
            subst e
            exact xbl_114
          · have e : y = 115 := by omega
            subst e
            exact xbl_115
        · rcases Nat.lt_or_ge y 117 with h5 | h5
          · have e : y = 116 := by omega
            subst e
            exact xbl_116
          · rcases Nat.lt_or_ge y 118 with h6 | h6
            · have e : y = 117 := by omega
              subst e
              exact xbl_117
            · have e : y = 118 := by omega
              subst e
              exact xbl_118
  · rcases Nat.lt_or_ge y 127 with h2 | h2
    · rcases Nat.lt_or_ge y 123 with h3 | h3
      · rcases Nat.lt_or_ge y 121 with h4 | h4
        · rcases Nat.lt_or_ge y 120 with h5 | h5
          · have e : y = 119 := by omega
            subst e
            exact xbl_119
          · have e : y = 120 := by omega
            subst e
            exact xbl_120
        · rcases Nat.lt_or_ge y 122 with h5 | h5
          · have e : y = 121 := by omega
            subst e
            exact xbl_121
          · have e : y = 122 := by omega
            subst e
            exact xbl_122
      · rcases Nat.lt_or_ge y 125 with h4 | h4
        · rcases Nat.lt_or_ge y 124 with h5 | h5
          · have e : y = 123 := by omega
            subst e
            exact xbl_123
          · have e : y = 124 := by omega
            subst e
            exact xbl_124
        · rcases Nat.lt_or_ge y 126 with h5 | h5
          · have e : y = 125 := by omega
            subst e
            exact xbl_125
          · have e : y = 126 := by omega
            subst e
            exact xbl_126
    · rcases Nat.lt_or_ge y 131 with h3 | h3
      · rcases Nat.lt_or_ge y 129 with h4 | h4
        · rcases Nat.lt_or_ge y 128 with h5 | h5
          · have e : y = 127 := by omega
            subst e
            exact xbl_127
          · have e : y = 128 := by omega
            subst e
            exact xbl_128
        · rcases Nat.lt_or_ge y 130 with h5 | h5
          · have e : y = 129 := by omega
            subst e
            exact xbl_129
          · have e : y = 130 := by omega
            subst e
            exact xbl_130
      · rcases Nat.lt_or_ge y 133 with h4 | h4
        · rcases Nat.lt_or_ge y 132 with h5 | h5
          · have e : y = 131 := by omega
            subst e
            exact xbl_131
          · have e : y = 132 := by omega
            subst e
            exact xbl_132
        · rcases Nat.lt_or_ge y 134 with h5 | h5
          · have e : y = 133 := by omega
            subst e
            exact xbl_133
          · rcases Nat.lt_or_ge y 135 with h6 | h6
            · have e : y = 134 := by omega
              subst e
              exact xbl_134
            · have e : y = 135 := by omega
              subst e
              exact xbl_135
theorem xbp_4 (y : Nat) (h : 136 ≤ y) (h2 : y < 170) : xBody y := by
  rcases Nat.lt_or_ge y 153 with h1 | h1
  · rcases Nat.lt_or_ge y 144 with h2 | h2
    · rcases Nat.lt_or_ge y 140 with h3 | h3
      · rcases Nat.lt_or_ge y 138 with h4 | h4
        · rcases Nat.lt_or_ge y 137 with h5 | h5
          · have e : y = 136 := by omega
            subst e
            exact xbl_136
          · have e : y = 137 := by omega
            subst e
            exact xbl_137
        · rcases Nat.lt_or_ge y 139 with h5 | h5
          · have e : y = 138 := by omega
            subst e
            exact xbl_138
          · have e : y = 139 := by omega
            subst e
            exact xbl_139
      · rcases Nat.lt_or_ge y 142 with h4 | h4
        · rcases Nat.lt_or_ge y 141 with h5 | h5
          · have e : y = 140 := by omega
            subst e
            exact xbl_140
          · have e : y = 141 := by omega
            subst e
            exact xbl_141
        · rcases Nat.lt_or_ge y 143 with h5 | h5
          · have e : y = 142 := by omega
            subst e
            exact xbl_142
          · have e : y = 143 := by omega
            subst e
            exact xbl_143
    · rcases Nat.lt_or_ge y 148 with h3 | h3
      · rcases Nat.lt_or_ge y 146 with h4 | h4
        · rcases Nat.lt_or_ge y 145 with h5 | h5
          · have e : y = 144 := by omega
            subst e
            exact xbl_144
          · have e : y = 145 := by omega
            subst e
            exact xbl_145
        · rcases Nat.lt_or_ge y 147 with h5 | h5
          · have e : y = 146 := by omega
            subst e
            exact xbl_146
          · have e : y = 147 := by omega
            subst e
            exact xbl_147
      · rcases Nat.lt_or_ge y 150 with h4 | h4
        · rcases Nat.lt_or_ge y 149 with h5 | h5
          · have e : y = 148 := by omega
            subst e
            exact xbl_148
          · have e : y = 149 := by omega
            subst e
            exact xbl_149
        · rcases Nat.lt_or_ge y 151 with h5 | h5
          · have e : y = 150 := by omega
            subst e
            exact xbl_150
          · rcases Nat.lt_or_ge y 152 with h6 | h6
            · have e : y = 151 := by omega
              subst e
              exact xbl_151
            · have e : y = 152 := by omega
              subst e
              exact xbl_152
  · rcases Nat.lt_or_ge y 161 with h2 | h2
    · rcases Nat.lt_or_ge y 157 with h3 | h3
      · rcases Nat.lt_or_ge y 155 with h4 | h4
        · rcases Nat.lt_or_ge y 154 with h5 | h5
          · have e : y = 153 := by omega
            subst e
            exact xbl_153
          · have e : y = 154 := by omega
            subst e
            exact xbl_154
        · rcases Nat.lt_or_ge y 156 with h5 | h5
          · have e : y = 155 := by omega
            subst e
            exact xbl_155
          · have e : y = 156 := by omega
            subst e
            exact xbl_156
      · rcases Nat.lt_or_ge y 159 with h4 | h4
        · rcases Nat.lt_or_ge y 158 with h5 | h5
          · have e : y = 157 := by omega
            subst e
            exact xbl_157
          · have e : y = 158 := by omega
            subst e
            exact xbl_158
        · rcases Nat.lt_or_ge y 160 with h5 | h5
          · have e : y = 159 := by omega
            subst e
            exact xbl_159
          · have e : y = 160 := by omega
            subst e
            exact xbl_160
    · rcases Nat.lt_or_ge y 165 with h3 | h3
      · rcases Nat.lt_or_ge y 163 with h4 | h4
        · rcases Nat.lt_or_ge y 162 with h5 | h5
          · have e : y = 161 := by omega
            subst e
            exact xbl_161
          · have e : y = 162 := by omega
            subst e
            exact xbl_162
        · rcases Nat.lt_or_ge y 164 with h5 | h5
          · have e : y = 163 := by omega
            subst e
            exact xbl_163
          · have e : y = 164 := by omega
            subst e
            exact xbl_164
      · rcases Nat.lt_or_ge y 167 with h4 | h4
        · rcases Nat.lt_or_ge y 166 with h5 | h5
          · have e : y = 165 := by omega
            subst e
            exact xbl_165
          · have e : y = 166 := by omega
            subst e
            exact xbl_166
        · rcases Nat.lt_or_ge y 168 with h5 | h5
          · have e : y = 167 := by omega
            subst e
            exact xbl_167
          · rcases Nat.lt_or_ge y 169 with h6 | h6
            · have e : y = 168 := by omega
              subst e
              exact xbl_168
            · have e : y = 169 := by omega
              subst e
              exact xbl_169
theorem xbp_5 (y : Nat) (h : 170 ≤ y) (h2 : y < 204) : xBody y := by
  rcases Nat.lt_or_ge y 187 with h1 | h1
  · rcases Nat.lt_or_ge y 178 with h2 | h2
    · rcases Nat.lt_or_ge y 174 with h3 | h3
      · rcases Nat.lt_or_ge y 172 with h4 | h4
        · rcases Nat.lt_or_ge y 171 with h5 | h5
          · have e : y = 170 := by omega
            subst e
            exact xbl_170
          · have e : y = 171 := by omega
            subst e
            exact xbl_171
        · rcases Nat.lt_or_ge y 173 with h5 | h5
          · have e : y = 172 := by omega
            subst e
            exact xbl_172
          · have e : y = 173 := by omega
            subst e
            exact xbl_173
      · rcases Nat.lt_or_ge y 176 with h4 | h4
        · rcases Nat.lt_or_ge y 175 with h5 | h5
          · have e : y = 174 := by omega
            subst e
            exact xbl_174
          · have e : y = 175 := by omega
            subst e
            exact xbl_175
        · rcases Nat.lt_or_ge y 177 with h5 | h5
          · have e : y = 176 := by omega
            subst e
            exact xbl_176
          · have e : y = 177 := by omega
            subst e
            exact xbl_177
    · rcases Nat.lt_or_ge y 182 with h3 | h3
      · rcases Nat.lt_or_ge y 180 with h4 | h4
        · rcases Nat.lt_or_ge y 179 with h5 | h5
          · have e : y = 178 := by omega
            subst e
            exact xbl_178
          · have e : y = 179 := by omega
            subst e
            exact xbl_179
        · rcases Nat.lt_or_ge y 181 with h5 | h5
          · have e : y = 180 := by omega
            subst e
            exact xbl_180
          · have e : y = 181 := by omega
            subst e
            exact xbl_181
      · rcases Nat.lt_or_ge y 184 with h4 | h4
        · rcases Nat.lt_or_ge y 183 with h5 | h5
          · have e : y = 182 := by omega
            subst e
            exact xbl_182
          · have e : y = 183 := by omega
            subst e
            exact xbl_183
        · rcases Nat.lt_or_ge y 185 with h5 | h5
          · have e : y = 184 := by omega
            subst e
            exact xbl_184
          · rcases Nat.lt_or_ge y 186 with h6 | h6
            · have e : y = 185 := by omega
              subst e
              exact xbl_185
            · have e : y = 186 := by omega
              subst e
              exact xbl_186
  · rcases Nat.lt_or_ge y 195 with h2 | h2
    · rcases Nat.lt_or_ge y 191 with h3 | h3
      · rcases Nat.lt_or_ge y 189 with h4 | h4
        · rcases Nat.lt_or_ge y 188 with h5 | h5
          · have e : y = 187 := by omega
            subst e
            exact xbl_187
          · have e : y = 188 := by omega
            subst e
            exact xbl_188
        · rcases Nat.lt_or_ge y 190 with h5 | h5
          · have e : y = 189 := by omega
            subst e
            exact xbl_189
          · have e : y = 190 := by omega
            subst e
            exact xbl_190
      · rcases Nat.lt_or_ge y 193 with h4 | h4
        · rcases Nat.lt_or_ge y 192 with h5 | h5
          · have e : y = 191 := by omega
            subst e
            exact xbl_191
          · have e : y = 192 := by omega
            subst e
            exact xbl_192
        · rcases Nat.lt_or_ge y 194 with h5 | h5
          · have e : y = 193 := by omega
            subst e
            exact xbl_193
          · have e : y = 194 := by omega
            subst e
            exact xbl_194
    · rcases Nat.lt_or_ge y 199 with h3 | h3
      · rcases Nat.lt_or_ge y 197 with h4 | h4
        · rcases Nat.lt_or_ge y 196 with h5 | h5
          · have e : y = 195 := by omega
            subst e
            exact xbl_195
          · have e : y = 196 := by omega
            subst e
            exact xbl_196
        · rcases Nat.lt_or_ge y 198 with h5 | h5
          · have e : y = 197 := by omega
            subst e
            exact xbl_197
          · have e : y = 198 := by omega
            subst e
            exact xbl_198
      · rcases Nat.lt_or_ge y 201 with h4 | h4
        · rcases Nat.lt_or_ge y 200 with h5 | h5
          · have e : y = 199 := by omega
            subst e
            exact xbl_199
          · have e : y = 200 := by omega
            subst e
            exact xbl_200
        · rcases Nat.lt_or_ge y 202 with h5 | h5
          · have e : y = 201 := by omega
            subst e
            exact xbl_201
          · rcases Nat.lt_or_ge y 203 with h6 | h6
            · have e : y = 202 := by omega
              subst e
              exact xbl_202
            · have e : y = 203 := by omega
              subst e
              exact xbl_203
theorem xbp_6 (y : Nat) (h : 204 ≤ y) (h2 : y < 238) : xBody y := by
  rcases Nat.lt_or_ge y 221 with h1 | h1
  · rcases Nat.lt_or_ge y 212 with h2 | h2
    · rcases Nat.lt_or_ge y 208 with h3 | h3
      · rcases Nat.lt_or_ge y 206 with h4 | h4
        · rcases Nat.lt_or_ge y 205 with h5 | h5
          · have e : y = 204 := by omega
            subst e
            exact xbl_204
          · have e : y = 205 := by omega
            subst e
            exact xbl_205
        · rcases Nat.lt_or_ge y 207 with h5 | h5
          · have e : y = 206 := by omega
            subst e
            exact xbl_206
          · have e : y = 207 := by omega
            subst e
            exact xbl_207
      · rcases Nat.lt_or_ge y 210 with h4 | h4
        · rcases Nat.lt_or_ge y 209 with h5 | h5
          · have e : y = 208 := by omega
            subst e
            exact xbl_208
          · have e : y = 209 := by omega
            subst e
            exact xbl_209
        · rcases Nat.lt_or_ge y 211 with h5 | h5
          · have e : y = 210 := by omega
            subst e
            exact xbl_210
          · have e : y = 211 := by omega
            subst e
            exact xbl_211
    · rcases Nat.lt_or_ge y 216 with h3 | h3
      · rcases Nat.lt_or_ge y 214 with h4 | h4
        · rcases Nat.lt_or_ge y 213 with h5 | h5
          · have e : y = 212 := by omega
            subst e
            exact xbl_212
          · have e : y = 213 := by omega
            subst e
            exact xbl_213
        · rcases Nat.lt_or_ge y 215 with h5 | h5
          · have e : y = 214 := by omega
            subst e
            exact xbl_214
          · have e : y = 215 := by omega
            subst e
            exact xbl_215
      · rcases Nat.lt_or_ge y 218 with h4 | h4
        · rcases Nat.lt_or_ge y 217 with h5 | h5
          · have e : y = 216 := by omega
            subst e
            exact xbl_216
          · have e : y = 217 := by omega
            subst e
            exact xbl_217
        · rcases Nat.lt_or_ge y 219 with h5 | h5
          · have e : y = 218 := by omega
            subst e
            exact xbl_218
          · rcases Nat.lt_or_ge y 220 with h6 | h6
            · have e : y = 219 := by omega
              subst e
              exact xbl_219
            · have e : y = 220 := by omega
              subst e
              exact xbl_220
  · rcases Nat.lt_or_ge y 229 with h2 | h2
    · rcases Nat.lt_or_ge y 225 with h3 | h3
      · rcases Nat.lt_or_ge y 223 with h4 | h4
        · rcases Nat.lt_or_ge y 222 with h5 | h5
          · have e : y = 221 := by omega
            subst e
            exact xbl_221
          · have e : y = 222 := by omega
            subst e
            exact xbl_222
        · rcases Nat.lt_or_ge y 224 with h5 | h5
          · have e : y = 223 := by omega
            subst e
            exact xbl_223
          · have e : y = 224 := by omega
            subst e
            exact xbl_224
      · rcases Nat.lt_or_ge y 227 with h4 | h4
        · rcases Nat.lt_or_ge y 226 with h5 | h5
          · have e : y = 225 := by omega
            subst e
            exact xbl_225
          · have e : y = 226 := by omega
            subst e
            exact xbl_226
        · rcases Nat.lt_or_ge y 228 with h5 | h5
          · have e : y = 227 := by omega
            subst e
            exact xbl_227
          · have e : y = 228 := by omega
            subst e
            exact xbl_228
    · rcases Nat.lt_or_ge y 233 with h3 | h3
      · rcases Nat.lt_or_ge y 231 with h4 | h4
        · rcases Nat.lt_or_ge y 230 with h5 | h5
          · have e : y = 229 := by omega
            subst e
            exact xbl_229
          · have e : y = 230 := by omega
            subst e
            exact xbl_230
        · rcases Nat.lt_or_ge y 232 with h5 | h5
          · have e : y = 231 := by omega
            subst e
            exact xbl_231
          · have e : y = 232 := by omega
            subst e
            exact xbl_232
      · rcases Nat.lt_or_ge y 235 with h4 | h4
        · rcases Nat.lt_or_ge y 234 with h5 | h5
          · have e : y = 233 := by omega
            subst e
            exact xbl_233
          · have e : y = 234 := by omega
            subst e
            exact xbl_234
        · rcases Nat.lt_or_ge y 236 with h5 | h5
          · have e : y = 235 := by omega
            subst e
            exact xbl_235
          · rcases Nat.lt_or_ge y 237 with h6 | h6
            · have e : y = 236 := by omega
              subst e
              exact xbl_236
            · have e : y = 237 := by omega
              subst e
              exact xbl_237
theorem xbp_7 (y : Nat) (h : 238 ≤ y) (h2 : y < 266) : xBody y := by
  rcases Nat.lt_or_ge y 252 with h1 | h1
  · rcases Nat.lt_or_ge y 245 with h2 | h2
    · rcases Nat.lt_or_ge y 241 with h3 | h3
      · rcases Nat.lt_or_ge y 239 with h4 | h4
        · have e : y = 238 := by omega
          subst e
          exact xbl_238
        · rcases Nat.lt_or_ge y 240 with h5 | h5
          · have e : y = 239 := by omega
            subst e
            exact xbl_239
          · have e : y = 240 := by omega
            subst e
            exact xbl_240
      · rcases Nat.lt_or_ge y 243 with h4 | h4
        · rcases Nat.lt_or_ge y 242 with h5 | h5
          · have e : y = 241 := by omega
            subst e
            exact xbl_241
          · have e : y = 242 := by omega
            subst e
            exact xbl_242
        · rcases Nat.lt_or_ge y 244 with h5 | h5
          · have e : y = 243 := by omega
            subst e
            exact xbl_243
          · have e : y = 244 := by omega
            subst e
            exact xbl_244
    · rcases Nat.lt_or_ge y 248 with h3 | h3
      · rcases Nat.lt_or_ge y 246 with h4 | h4
        · have e : y = 245 := by omega
          subst e
          exact xbl_245
        · rcases Nat.lt_or_ge y 247 with h5 | h5
          · have e : y = 246 := by omega
            subst e
            exact xbl_246
          · have e : y = 247 := by omega
            subst e
            exact xbl_247
      · rcases Nat.lt_or_ge y 250 with h4 | h4
        · rcases Nat.lt_or_ge y 249 with h5 | h5
          · have e : y = 248 := by omega
            subst e
            exact xbl_248
          · have e : y = 249 := by omega
            subst e
            exact xbl_249
        · rcases Nat.lt_or_ge y 251 with h5 | h5
          · have e : y = 250 := by omega
            subst e
            exact xbl_250
          · have e : y = 251 := by omega
            subst e
            exact xbl_251
  · rcases Nat.lt_or_ge y 259 with h2 | h2
    · rcases Nat.lt_or_ge y 255 with h3 | h3
      · rcases Nat.lt_or_ge y 253 with h4 | h4
        · have e : y = 252 := by omega
          subst e
          exact xbl_252
        · rcases Nat.lt_or_ge y 254 with h5 | h5
          · have e : y = 253 := by omega
            subst e
            exact xbl_253
          · have e : y = 254 := by omega
            subst e
            exact xbl_254
      · rcases Nat.lt_or_ge y 257 with h4 | h4
        · rcases Nat.lt_or_ge y 256 with h5 | h5
          · have e : y = 255 := by omega
            subst e
            exact xbl_255
          · have e : y = 256 := by omega
            subst e
            exact xbl_256
        · rcases Nat.lt_or_ge y 258 with h5 | h5
          · have e : y = 257 := by omega
            subst e
            exact xbl_257
          · have e : y = 258 := by omega
            subst e
            exact xbl_258
    · rcases Nat.lt_or_ge y 262 with h3 | h3
      · rcases Nat.lt_or_ge y 260 with h4 | h4
        · have e : y = 259 := by omega
          subst e
          exact xbl_259
        · rcases Nat.lt_or_ge y 261 with h5 | h5
          · have e : y = 260 := by omega
            subst e
            exact xbl_260
          · have e : y = 261 := by omega
            subst e
            exact xbl_261
      · rcases Nat.lt_or_ge y 264 with h4 | h4
        · rcases Nat.lt_or_ge y 263 with h5 | h5
          · have e : y = 262 := by omega
            subst e
            exact xbl_262
          · have e : y = 263 := by omega
            subst e
            exact xbl_263
        · rcases Nat.lt_or_ge y 265 with h5 | h5
          · have e : y = 264 := by omega
            subst e
            exact xbl_264
          · have e : y = 265 := by omega
            subst e
            exact xbl_265
theorem xbody_ok (y : Nat) (hy : y < 266) : xBody y := by
  rcases Nat.lt_or_ge y 34 with h | h
  · exact xbp_0 y (by omega) h
  rcases Nat.lt_or_ge y 68 with h | h
  · exact xbp_1 y (by omega) h
  rcases Nat.lt_or_ge y 102 with h | h
  · exact xbp_2 y (by omega) h
  rcases Nat.lt_or_ge y 136 with h | h
  · exact xbp_3 y (by omega) h
  rcases Nat.lt_or_ge y 170 with h | h
  · exact xbp_4 y (by omega) h
  rcases Nat.lt_or_ge y 204 with h | h
  · exact xbp_5 y (by omega) h
  rcases Nat.lt_or_ge y 238 with h | h
  · exact xbp_6 y (by omega) h
  exact xbp_7 y h (by omega)
theorem xcp_0 (y : Nat) (h : 0 ≤ y) (h2 : y < 34) : xCodeW y := by
  rcases Nat.lt_or_ge y 17 with h1 | h1
  · rcases Nat.lt_or_ge y 8 with h2 | h2
    · rcases Nat.lt_or_ge y 4 with h3 | h3
      · rcases Nat.lt_or_ge y 2 with h4 | h4
        · rcases Nat.lt_or_ge y 1 with h5 | h5
          · have e : y = 0 := by omega
            subst e
            exact xcw_0
          · have e : y = 1 := by omega
            subst e
            exact xcw_1
        · rcases Nat.lt_or_ge y 3 with h5 | h5
          · have e : y = 2 := by omega
            subst e
            exact xcw_2
          · have e : y = 3 := by omega
            subst e
            exact xcw_3
      · rcases Nat.lt_or_ge y 6 with h4 | h4
        · rcases Nat.lt_or_ge y 5 with h5 | h5
          · have e : y = 4 := by omega
            subst e
            exact xcw_4
          · have e : y = 5 := by omega
            subst e
            exact xcw_5
        · rcases Nat.lt_or_ge y 7 with h5 | h5
          · have e : y = 6 := by omega
            subst e
            exact xcw_6
          · have e : y = 7 := by omega
            subst e
            exact xcw_7
    · rcases Nat.lt_or_ge y 12 with h3 | h3
      · rcases Nat.lt_or_ge y 10 with h4 | h4
        · rcases Nat.lt_or_ge y 9 with h5 | h5
          · have e : y = 8 := by omega
            subst e
            exact xcw_8
          · have e : y = 9 := by omega
            subst e
            exact xcw_9
        · rcases Nat.lt_or_ge y 11 with h5 | h5
          · have e : y = 10 := by omega
            subst e
            exact xcw_10
          · have e : y = 11 := by omega
            subst e
            exact xcw_11
      · rcases Nat.lt_or_ge y 14 with h4 | h4
        · rcases Nat.lt_or_ge y 13 with h5 | h5
          · have e : y = 12 := by omega
            subst e
            exact xcw_12
          · have e : y = 13 := by omega
            subst e
            exact xcw_13
        · rcases Nat.lt_or_ge y 15 with h5 | h5
          · have e : y = 14 := by omega
            subst e
            exact xcw_14
          · rcases Nat.lt_or_ge y 16 with h6 | h6
            · have e : y = 15 := by omega
              subst e
              exact xcw_15
            · have e : y = 16 := by omega
              subst e
              exact xcw_16
  · rcases Nat.lt_or_ge y 25 with h2 | h2
    · rcases Nat.lt_or_ge y 21 with h3 | h3
      · rcases Nat.lt_or_ge y 19 with h4 | h4
        · rcases Nat.lt_or_ge y 18 with h5 | h5
          · have e : y = 17 := by omega
            subst e
            exact xcw_17
          · have e : y = 18 := by omega
            subst e
            exact xcw_18
        · rcases Nat.lt_or_ge y 20 with h5 | h5
          · have e : y = 19 := by omega
            subst e
            exact xcw_19
          · have e : y = 20 := by omega
            subst e
            exact xcw_20
      · rcases Nat.lt_or_ge y 23 with h4 | h4
        · rcases Nat.lt_or_ge y 22 with h5 | h5
          · have e : y = 21 := by omega
            subst e
            exact xcw_21
          · have e : y = 22 := by omega
            subst e
            exact xcw_22
        · rcases Nat.lt_or_ge y 24 with h5 | h5
          · have e : y = 23 := by omega
            subst e
            exact xcw_23
          · have e : y = 24 := by omega
            subst e
            exact xcw_24
    · rcases Nat.lt_or_ge y 29 with h3 | h3
      · rcases Nat.lt_or_ge y 27 with h4 | h4
        · rcases Nat.lt_or_ge y 26 with h5 | h5
          · have e : y = 25 := by omega
            subst e
            exact xcw_25
          · have e : y = 26 := by omega
            subst e
            exact xcw_26
        · rcases Nat.lt_or_ge y 28 with h5 | h5
          · have e : y = 27 := by omega
            subst e
            exact xcw_27
          · have e : y = 28 := by omega
            subst e
            exact xcw_28
      · rcases Nat.lt_or_ge y 31 with h4 | h4
        · rcases Nat.lt_or_ge y 30 with h5 | h5
          · have e : y = 29 := by omega
            subst e
            exact xcw_29
          · have e : y = 30 := by omega
            subst e
            exact xcw_30
        · rcases Nat.lt_or_ge y 32 with h5 | h5
          · have e : y = 31 := by omega
            subst e
            exact xcw_31
          · rcases Nat.lt_or_ge y 33 with h6 | h6
            · have e : y = 32 := by omega
              subst e
              exact xcw_32
            · have e : y = 33 := by omega
              subst e
              exact xcw_33
theorem xcp_1 (y : Nat) (h : 34 ≤ y) (h2 : y < 68) : xCodeW y := by
  rcases Nat.lt_or_ge y 51 with h1 | h1
  · rcases Nat.lt_or_ge y 42 with h2 | h2
    · rcases Nat.lt_or_ge y 38 with h3 | h3
      · rcases Nat.lt_or_ge y 36 with h4 | h4
        · rcases Nat.lt_or_ge y 35 with h5 | h5
          · have e : y = 34 := by omega
            subst e
            exact xcw_34
          · have e : y = 35 := by omega
            subst e
            exact xcw_35
        · rcases Nat.lt_or_ge y 37 with h5 | h5
          · have e : y = 36 := by omega
            subst e
            exact xcw_36
          · have e : y = 37 := by omega
            subst e
            exact xcw_37
      · rcases Nat.lt_or_ge y 40 with h4 | h4
        · rcases Nat.lt_or_ge y 39 with h5 | h5
          · have e : y = 38 := by omega
            subst e
            exact xcw_38
          · have e : y = 39 := by omega
            subst e
            exact xcw_39
        · rcases Nat.lt_or_ge y 41 with h5 | h5
          · have e : y = 40 := by omega
            subst e
            exact xcw_40
          · have e : y = 41 := by omega
            subst e
            exact xcw_41
    · rcases Nat.lt_or_ge y 46 with h3 | h3
      · rcases Nat.lt_or_ge y 44 with h4 | h4
        · rcases Nat.lt_or_ge y 43 with h5 | h5
          · have e : y = 42 := by omega
            subst e
            exact xcw_42
          · have e : y = 43 := by omega
            subst e
            exact xcw_43
        · rcases Nat.lt_or_ge y 45 with h5 | h5
          · have e : y = 44 := by omega
            subst e
            exact xcw_44
          · have e : y = 45 := by omega
            subst e
            exact xcw_45
      · rcases Nat.lt_or_ge y 48 with h4 | h4
        · rcases Nat.lt_or_ge y 47 with h5 | h5
          · have e : y = 46 := by omega
            subst e
            exact xcw_46
          · have e : y = 47 := by omega
            subst e
            exact xcw_47
        · rcases Nat.lt_or_ge y 49 with h5 | h5
          · have e : y = 48 := by omega
            subst e
            exact xcw_48
          · rcases Nat.lt_or_ge y 50 with h6 | h6
            · have e : y = 49 := by omega
              subst e
              exact xcw_49
            · have e : y = 50 := by omega
              subst e
              exact xcw_50
  · rcases Nat.lt_or_ge y 59 with h2 | h2
    · rcases Nat.lt_or_ge y 55 with h3 | h3
      · rcases Nat.lt_or_ge y 53 with h4 | h4
        · rcases Nat.lt_or_ge y 52 with h5 | h5
          · have e : y = 51 := by omega
            subst e
            exact xcw_51
          · have e : y = 52 := by omega
            subst e
            exact xcw_52
        · rcases Nat.lt_or_ge y 54 with h5 | h5
          · have e : y = 53 := by omega
            subst e
            exact xcw_53
          · have e : y = 54 := by omega
            subst e
            exact xcw_54
      · rcases Nat.lt_or_ge y 57 with h4 | h4
        · rcases Nat.lt_or_ge y 56 with h5 | h5
          · have e : y = 55 := by omega
            subst e
            exact xcw_55
          · have e : y = 56 := by omega
            subst e
            exact xcw_56
        · rcases Nat.lt_or_ge y 58 with h5 | h5
          · have e : y = 57 := by omega
            subst e
            exact xcw_57
          · have e : y = 58 := by omega
            subst e
            exact xcw_58
    · rcases Nat.lt_or_ge y 63 with h3 | h3
      · rcases Nat.lt_or_ge y 61 with h4 | h4
        · rcases Nat.lt_or_ge y 60 with h5 | h5
          · have e : y = 59 := by omega
            subst e
            exact xcw_59
          · have e : y = 60 := by omega
            subst e
            exact xcw_60
        · rcases Nat.lt_or_ge y 62 with h5 | h5
          · have e : y = 61 := by omega
            subst e
            exact xcw_61
          · have e : y = 62 := by omega
            subst e
            exact xcw_62
      · rcases Nat.lt_or_ge y 65 with h4 | h4
        · rcases Nat.lt_or_ge y 64 with h5 | h5
          · have e : y = 63 := by omega
            subst e
            exact xcw_63
          · have e : y = 64 := by omega
            subst e
            exact xcw_64
        · rcases Nat.lt_or_ge y 66 with h5 | h5
          · have e : y = 65 := by omega
            subst e
            exact xcw_65
          · rcases Nat.lt_or_ge y 67 with h6 | h6
            · have e : y = 66 := by omega
              subst e
              exact xcw_66
            · have e : y = 67 := by omega
              subst e
              exact xcw_67
theorem xcp_2 (y : Nat) (h : 68 ≤ y) (h2 : y < 102) : xCodeW y := by
  rcases Nat.lt_or_ge y 85 with h1 | h1
  · rcases Nat.lt_or_ge y 76 with h2 | h2
    · rcases Nat.lt_or_ge y 72 with h3 | h3
      · rcases Nat.lt_or_ge y 70 with h4 | h4
        · rcases Nat.lt_or_ge y 69 with h5 | h5
          · have e : y = 68 := by omega
            subst e
            exact xcw_68
          · have e : y = 69 := by omega
            subst e
            exact xcw_69
        · rcases Nat.lt_or_ge y 71 with h5 | h5
          · have e : y = 70 := by omega
            subst e
            exact xcw_70
          · have e : y = 71 := by omega
            subst e
            exact xcw_71
      · rcases Nat.lt_or_ge y 74 with h4 | h4
        · rcases Nat.lt_or_ge y 73 with h5 | h5
          · have e : y = 72 := by omega
            subst e
            exact xcw_72
          · have e : y = 73 := by omega
            subst e
            exact xcw_73
        · rcases Nat.lt_or_ge y 75 with h5 | h5
          · have e : y = 74 := by omega
            subst e
            exact xcw_74
          · have e : y = 75 := by omega
            subst e
            exact xcw_75
    · rcases Nat.lt_or_ge y 80 with h3 | h3
      · rcases Nat.lt_or_ge y 78 with h4 | h4
        · rcases Nat.lt_or_ge y 77 with h5 | h5
          · have e : y = 76 := by omega
            subst e
            exact xcw_76
          · have e : y = 77 := by omega
            subst e
            exact xcw_77
        · rcases Nat.lt_or_ge y 79 with h5 | h5
          · have e : y = 78 := by omega
            subst e
            exact xcw_78
          · have e : y = 79 := by omega
            subst e
            exact xcw_79
      · rcases Nat.lt_or_ge y 82 with h4 | h4
        · rcases Nat.lt_or_ge y 81 with h5 | h5
          · have e : y = 80 := by omega
            subst e
            exact xcw_80
          · have e : y = 81 := by omega
            subst e
            exact xcw_81
        · rcases Nat.lt_or_ge y 83 with h5 | h5
          · have e : y = 82 := by omega
            subst e
            exact xcw_82
          · rcases Nat.lt_or_ge y 84 with h6 | h6
            · have e : y = 83 := by omega
              subst e
              exact xcw_83
            · have e : y = 84 := by omega
              subst e
              exact xcw_84
  · rcases Nat.lt_or_ge y 93 with h2 | h2
    · rcases Nat.lt_or_ge y 89 with h3 | h3
      · rcases Nat.lt_or_ge y 87 with h4 | h4
        · rcases Nat.lt_or_ge y 86 with h5 | h5
          · have e : y = 85 := by omega
            subst e
            exact xcw_85
          · have e : y = 86 := by omega
            subst e
            exact xcw_86
        · rcases Nat.lt_or_ge y 88 with h5 | h5
          · have e : y = 87 := by omega
            subst e
            exact xcw_87
          · have e : y = 88 := by omega
            subst e
            exact xcw_88
      · rcases Nat.lt_or_ge y 91 with h4 | h4
        · rcases Nat.lt_or_ge y 90 with h5 | h5
          · have e : y = 89 := by omega
            subst e
            exact xcw_89
          · have e : y = 90 := by omega
            subst e
            exact xcw_90
        · rcases Nat.lt_or_ge y 92 with h5 | h5
          · have e : y = 91 := by omega
            subst e
            exact xcw_91
          · have e : y = 92 := by omega
            subst e
            exact xcw_92
    · rcases Nat.lt_or_ge y 97 with h3 | h3
      · rcases Nat.lt_or_ge y 95 with h4 | h4
        · rcases Nat.lt_or_ge y 94 with h5 | h5
          · have e : y = 93 := by omega
            subst e
            exact xcw_93
          · have e : y = 94 := by omega
            subst e
            exact xcw_94
        · rcases Nat.lt_or_ge y 96 with h5 | h5
          · have e : y = 95 := by omega
            subst e
            exact xcw_95
          · have e : y = 96 := by omega
            subst e
            exact xcw_96
      · rcases Nat.lt_or_ge y 99 with h4 | h4
        · rcases Nat.lt_or_ge y 98 with h5 | h5
          · have e : y = 97 := by omega
            subst e
            exact xcw_97
          · have e : y = 98 := by omega
            subst e
            exact xcw_98
        · rcases Nat.lt_or_ge y 100 with h5 | h5
          · have e : y = 99 := by omega
            subst e
            exact xcw_99
          · rcases Nat.lt_or_ge y 101 with h6 | h6
            · have e : y = 100 := by omega
              subst e
              exact xcw_100
            · have e : y = 101 := by omega
              subst e
              exact xcw_101
theorem xcp_3 (y : Nat) (h : 102 ≤ y) (h2 : y < 136) : xCodeW y := by
  rcases Nat.lt_or_ge y 119 with h1 | h1
  · rcases Nat.lt_or_ge y 110 with h2 | h2
    · rcases Nat.lt_or_ge y 106 with h3 | h3
      · rcases Nat.lt_or_ge y 104 with h4 | h4
        · rcases Nat.lt_or_ge y 103 with h5 | h5
          · have e : y = 102 := by omega
            subst e
            exact xcw_102
          · have e : y = 103 := by omega
            subst e
            exact xcw_103
        · rcases Nat.lt_or_ge y 105 with h5 | h5
          · have e : y = 104 := by omega
            subst e
            exact xcw_104
          · have e : y = 105 := by omega
            subst e
            exact xcw_105
      · rcases Nat.lt_or_ge y 108 with h4 | h4
        · rcases Nat.lt_or_ge y 107 with h5 | h5
          · have e : y = 106 := by omega
            subst e
            exact xcw_106
          · have e : y = 107 := by omega
            subst e
            exact xcw_107
        · rcases Nat.lt_or_ge y 109 with h5 | h5
          · have e : y = 108 := by omega
            subst e
            exact xcw_108
          · have e : y = 109 := by omega
            subst e
            exact xcw_109
    · rcases Nat.lt_or_ge y 114 with h3 | h3
      · rcases Nat.lt_or_ge y 112 with h4 | h4
        · rcases Nat.lt_or_ge y 111 with h5 | h5
          · have e : y = 110 := by omega
            subst e
            exact xcw_110
          · have e : y = 111 := by omega
            subst e
            exact xcw_111
        · rcases Nat.lt_or_ge y 113 with h5 | h5
          · have e : y = 112 := by omega
            subst e
            exact xcw_112
          · have e : y = 113 := by omega
            subst e
            exact xcw_113
      · rcases Nat.lt_or_ge y 116 with h4 | h4
        · rcases Nat.lt_or_ge y 115 with h5 | h5
          · have e : y = 114 := by omega
            subst e
            exact xcw_114
          · have e : y = 115 := by omega
            subst e
            exact xcw_115
        · rcases Nat.lt_or_ge y 117 with h5 | h5
          · have e : y = 116 := by omega
            subst e
            exact xcw_116
          · rcases Nat.lt_or_ge y 118 with h6 | h6
            · have e : y = 117 := by omega
              subst e
              exact xcw_117
            · have e : y = 118 := by omega
              subst e
              exact xcw_118
  · rcases Nat.lt_or_ge y 127 with h2 | h2
    · rcases Nat.lt_or_ge y 123 with h3 | h3
      · rcases Nat.lt_or_ge y 121 with h4 | h4
        · rcases Nat.lt_or_ge y 120 with h5 | h5
          · have e : y = 119 := by omega
            subst e
            exact xcw_119
          · have e : y = 120 := by omega
            subst e
            exact xcw_120
        · rcases Nat.lt_or_ge y 122 with h5 | h5
          · have e : y = 121 := by omega
            subst e
            exact xcw_121
          · have e : y = 122 := by omega
            subst e
            exact xcw_122
      · rcases Nat.lt_or_ge y 125 with h4 | h4
        · rcases Nat.lt_or_ge y 124 with h5 | h5
          · have e : y = 123 := by omega
            subst e
            exact xcw_123
          · have e : y = 124 := by omega
            subst e
            exact xcw_124
        · rcases Nat.lt_or_ge y 126 with h5 | h5
          · have e : y = 125 := by omega
            subst e
            exact xcw_125
          · have e : y = 126 := by omega
            subst e
            exact xcw_126
    · rcases Nat.lt_or_ge y 131 with h3 | h3
      · rcases Nat.lt_or_ge y 129 with h4 | h4
        · rcases Nat.lt_or_ge y 128 with h5 | h5
          · have e : y = 127 := by omega
            subst e
            exact xcw_127
          · have e : y = 128 := by omega
            subst e
            exact xcw_128
        · rcases Nat.lt_or_ge y 130 with h5 | h5
          · have e : y = 129 := by omega
            subst e
            exact xcw_129
          · have e : y = 130 := by omega
            subst e
            exact xcw_130
      · rcases Nat.lt_or_ge y 133 with h4 | h4
        · rcases Nat.lt_or_ge y 132 with h5 | h5
          · have e : y = 131 := by omega
            subst e
            exact xcw_131
          · have e : y = 132 := by omega
            subst e
            exact xcw_132
        · rcases Nat.lt_or_ge y 134 with h5 | h5
          · have e : y = 133 := by omega
            subst e
            exact xcw_133
          · rcases Nat.lt_or_ge y 135 with h6 | h6
            · have e : y = 134 := by omega
              subst e
              exact xcw_134
            · have e : y = 135 := by omega
              subst e
              exact xcw_135
theorem xcp_4 (y : Nat) (h : 136 ≤ y) (h2 : y < 170) : xCodeW y := by
  rcases Nat.lt_or_ge y 153 with h1 | h1
  · rcases Nat.lt_or_ge y 144 with h2 | h2
    · rcases Nat.lt_or_ge y 140 with h3 | h3
      · rcases Nat.lt_or_ge y 138 with h4 | h4
        · rcases Nat.lt_or_ge y 137 with h5 | h5
          · have e : y = 136 := by omega
            subst e
            exact xcw_136
          · have e : y = 137 := by omega
            subst e
            exact xcw_137
        · rcases Nat.lt_or_ge y 139 with h5 | h5
          · have e : y = 138 := by omega
            subst e
            exact xcw_138
          · have e : y = 139 := by omega
            subst e
            exact xcw_139
      · rcases Nat.lt_or_ge y 142 with h4 | h4
        · rcases Nat.lt_or_ge y 141 with h5 | h5
          · have e : y = 140 := by omega
            subst e
            exact xcw_140
          · have e : y = 141 := by omega
            subst e
            exact xcw_141
        · rcases Nat.lt_or_ge y 143 with h5 | h5
          · have e : y = 142 := by omega
            subst e
            exact xcw_142
          · have e : y = 143 := by omega
            subst e
            exact xcw_143
    · rcases Nat.lt_or_ge y 148 with h3 | h3
      · rcases Nat.lt_or_ge y 146 with h4 | h4
        · rcases Nat.lt_or_ge y 145 with h5 | h5
          · have e : y = 144 := by omega
            subst e
            exact xcw_144
          · have e : y = 145 := by omega
            subst e
            exact xcw_145
        · rcases Nat.lt_or_ge y 147 with h5 | h5
          · have e : y = 146 := by omega
            subst e
            exact xcw_146
          · have e : y = 147 := by omega
            subst e
            exact xcw_147
      · rcases Nat.lt_or_ge y 150 with h4 | h4
        · rcases Nat.lt_or_ge y 149 with h5 | h5
          · have e : y = 148 := by omega
            subst e
            exact xcw_148
          · have e : y = 149 := by omega
            subst e
            exact xcw_149
        · rcases Nat.lt_or_ge y 151 with h5 | h5
          · have e : y = 150 := by omega
            subst e
            exact xcw_150
          · rcases Nat.lt_or_ge y 152 with h6 | h6
            · have e : y = 151 := by omega
              subst e
              exact xcw_151
            · have e : y = 152 := by omega
              subst e
              exact xcw_152
  · rcases Nat.lt_or_ge y 161 with h2 | h2
    · rcases Nat.lt_or_ge y 157 with h3 | h3
      · rcases Nat.lt_or_ge y 155 with h4 | h4
        · rcases Nat.lt_or_ge y 154 with h5 | h5
          · have e : y = 153 := by omega
            subst e
            exact xcw_153
          · have e : y = 154 := by omega
            subst e
            exact xcw_154
        · rcases Nat.lt_or_ge y 156 with h5 | h5
          · have e : y = 155 := by omega
            subst e
            exact xcw_155
          · have e : y = 156 := by omega
            subst e
            exact xcw_156
      · rcases Nat.lt_or_ge y 159 with h4 | h4
        · rcases Nat.lt_or_ge y 158 with h5 | h5
          · have e : y = 157 := by omega
            subst e
            exact xcw_157
          · have e : y = 158 := by omega
            subst e
            exact xcw_158
        · rcases Nat.lt_or_ge y 160 with h5 | h5
          · have e : y = 159 := by omega
            subst e
            exact xcw_159
          · have e : y = 160 := by omega
            subst e
            exact xcw_160
    · rcases Nat.lt_or_ge y 165 with h3 | h3
      · rcases Nat.lt_or_ge y 163 with h4 | h4
        · rcases Nat.lt_or_ge y 162 with h5 | h5
          · have e : y = 161 := by omega
            subst e
            exact xcw_161
          · have e : y = 162 := by omega
            subst e
            exact xcw_162
        · rcases Nat.lt_or_ge y 164 with h5 | h5
          · have e : y = 163 := by omega
            subst e
            exact xcw_163
          · have e : y = 164 := by omega
            subst e
            exact xcw_164
      · rcases Nat.lt_or_ge y 167 with h4 | h4
        · rcases Nat.lt_or_ge y 166 with h5 | h5
          · have e : y = 165 := by omega
            subst e
            exact xcw_165
          · have e : y = 166 := by omega
            subst e
            exact xcw_166
        · rcases Nat.lt_or_ge y 168 with h5 | h5
          · have e : y = 167 := by omega
            subst e
            exact xcw_167
          · rcases Nat.lt_or_ge y 169 with h6 | h6
            · have e : y = 168 := by omega
              subst e
              exact xcw_168
            · have e : y = 169 := by omega
              subst e
              exact xcw_169
theorem xcp_5 (y : Nat) (h : 170 ≤ y) (h2 : y < 204) : xCodeW y := by
  rcases Nat.lt_or_ge y 187 with h1 | h1
  · rcases Nat.lt_or_ge y 178 with h2 | h2
    · rcases Nat.lt_or_ge y 174 with h3 | h3
      · rcases Nat.lt_or_ge y 172 with h4 | h4
        · rcases Nat.lt_or_ge y 171 with h5 | h5
          · have e : y = 170 := by omega
            subst e
            exact xcw_170
          · have e : y = 171 := by omega
            subst e
            exact xcw_171
        · rcases Nat.lt_or_ge y 173 with h5 | h5
          · have e : y = 172 := by omega
            subst e
            exact xcw_172
          · have e : y = 173 := by omega
            subst e
            exact xcw_173
      · rcases Nat.lt_or_ge y 176 with h4 | h4
        · rcases Nat.lt_or_ge y 175 with h5 | h5
          · have e : y = 174 := by omega
            subst e
            exact xcw_174
          · have e : y = 175 := by omega
            subst e
            exact xcw_175
        · rcases Nat.lt_or_ge y 177 with h5 | h5
          · have e : y = 176 := by omega
            subst e
            exact xcw_176
          · have e : y = 177 := by omega
            subst e
            exact xcw_177
    · rcases Nat.lt_or_ge y 182 with h3 | h3
      · rcases Nat.lt_or_ge y 180 with h4 | h4
        · rcases Nat.lt_or_ge y 179 with h5 | h5
          · have e : y = 178 := by omega
            subst e
            exact xcw_178
          · have e : y = 179 := by omega
            subst e
            exact xcw_179
        · rcases Nat.lt_or_ge y 181 with h5 | h5
          · have e : y = 180 := by omega
            subst e
            exact xcw_180
          · have e : y = 181 := by omega
            subst e
            exact xcw_181
      · rcases Nat.lt_or_ge y 184 with h4 | h4
        · rcases Nat.lt_or_ge y 183 with h5 | h5
          · have e : y = 182 := by omega
            subst e
            exact xcw_182
          · have e : y = 183 := by omega
            subst e
            exact xcw_183
        · rcases Nat.lt_or_ge y 185 with h5 | h5
          · have e : y = 184 := by omega
            subst e
            exact xcw_184
          · rcases Nat.lt_or_ge y 186 with h6 | h6
            · have e : y = 185 := by omega
              subst e
              exact xcw_185
            · have e : y = 186 := by omega
              subst e
              exact xcw_186
  · rcases Nat.lt_or_ge y 195 with h2 | h2
    · rcases Nat.lt_or_ge y 191 with h3 | h3
      · rcases Nat.lt_or_ge y 189 with h4 | h4
        · rcases Nat.lt_or_ge y 188 with h5 | h5
          · have e : y = 187 := by omega
            subst e
            exact xcw_187
          · have e : y = 188 := by omega
            subst e
            exact xcw_188
        · rcases Nat.lt_or_ge y 190 with h5 | h5
          · have e : y = 189 := by omega
            subst e
            exact xcw_189
          · have e : y = 190 := by omega
            subst e
            exact xcw_190
      · rcases Nat.lt_or_ge y 193 with h4 | h4
        · rcases Nat.lt_or_ge y 192 with h5 | h5
          · have e : y = 191 := by omega
            subst e
            exact xcw_191
          · have e : y = 192 := by omega
            subst e
            exact xcw_192
        · rcases Nat.lt_or_ge y 194 with h5 | h5
          · have e : y = 193 := by omega
            subst e
            exact xcw_193
          · have e : y = 194 := by omega
            subst e
            exact xcw_194
    · rcases Nat.lt_or_ge y 199 with h3 | h3
      · rcases Nat.lt_or_ge y 197 with h4 | h4
        · rcases Nat.lt_or_ge y 196 with h5 | h5
          · have e : y = 195 := by omega
            subst e
            exact xcw_195
          · have e : y = 196 := by omega
            subst e
            exact xcw_196
        · rcases Nat.lt_or_ge y 198 with h5 | h5
          · have e : y = 197 := by omega
            subst e
            exact xcw_197
          · have e : y = 198 := by omega
            subst e
            exact xcw_198
      · rcases Nat.lt_or_ge y 201 with h4 | h4
        · rcases Nat.lt_or_ge y 200 with h5 | h5
          · have e : y = 199 := by omega
            subst e
            exact xcw_199
          · have e : y = 200 := by omega
            subst e
            exact xcw_200
        · rcases Nat.lt_or_ge y 202 with h5 | h5
          · have e : y = 201 := by omega
            subst e
            exact xcw_201
          · rcases Nat.lt_or_ge y 203 with h6 | h6
            · have e : y = 202 := by omega
              subst e
              exact xcw_202
            · have e : y = 203 := by omega
              subst e
              exact xcw_203
theorem xcp_6 (y : Nat) (h : 204 ≤ y) (h2 : y < 238) : xCodeW y := by
  rcases Nat.lt_or_ge y 221 with h1 | h1
  · rcases Nat.lt_or_ge y 212 with h2 | h2
    · rcases Nat.lt_or_ge y 208 with h3 | h3
      · rcases Nat.lt_or_ge y 206 with h4 | h4
        · rcases Nat.lt_or_ge y 205 with h5 | h5
          · have e : y = 204 := by omega
            subst e
            exact xcw_204
          · have e : y = 205 := by omega
            subst e
            exact xcw_205
        · rcases Nat.lt_or_ge y 207 with h5 | h5
          · have e : y = 206 := by omega
            subst e
            exact xcw_206
          · have e : y = 207 := by omega
            subst e
            exact xcw_207
      · rcases Nat.lt_or_ge y 210 with h4 | h4
        · rcases Nat.lt_or_ge y 209 with h5 | h5
          · have e : y = 208 := by omega
            subst e
            exact xcw_208
          · have e : y = 209 := by omega
            subst e
            exact xcw_209
        · rcases Nat.lt_or_ge y 211 with h5 | h5
          · have e : y = 210 := by omega
            subst e
            exact xcw_210
          · have e : y = 211 := by omega
            subst e
            exact xcw_211
    · rcases Nat.lt_or_ge y 216 with h3 | h3
      · rcases Nat.lt_or_ge y 214 with h4 | h4
        · rcases Nat.lt_or_ge y 213 with h5 | h5
          · have e : y = 212 := by omega
            subst e
            exact xcw_212
          · have e : y = 213 := by omega
            subst e
            exact xcw_213
        · rcases Nat.lt_or_ge y 215 with h5 | h5
          · have e : y = 214 := by omega
            subst e
            exact xcw_214
          · have e : y = 215 := by omega
            subst e
            exact xcw_215
      · rcases Nat.lt_or_ge y 218 with h4 | h4
        · rcases Nat.lt_or_ge y 217 with h5 | h5
          · have e : y = 216 := by omega
            subst e
            exact xcw_216
          · have e : y = 217 := by omega
            subst e
            exact xcw_217
        · rcases Nat.lt_or_ge y 219 with h5 | h5
          · have e : y = 218 := by omega
            subst e
            exact xcw_218
          · rcases Nat.lt_or_ge y 220 with h6 | h6
            · have e : y = 219 := by omega
              subst e
              exact xcw_219
            · have e : y = 220 := by omega
              subst e
              exact xcw_220
  · rcases Nat.lt_or_ge y 229 with h2 | h2
    · rcases Nat.lt_or_ge y 225 with h3 | h3
      · rcases Nat.lt_or_ge y 223 with h4 | h4
        · rcases Nat.lt_or_ge y 222 with h5 | h5
          · have e : y = 221 := by omega
            subst e
            exact xcw_221
          · have e : y = 222 := by omega
            subst e
            exact xcw_222
        · rcases Nat.lt_or_ge y 224 with h5 | h5
          · have e : y = 223 := by omega
            subst e
            exact xcw_223
          · have e : y = 224 := by omega
            subst e
            exact xcw_224
      · rcases Nat.lt_or_ge y 227 with h4 | h4
        · rcases Nat.lt_or_ge y 226 with h5 | h5
          · have e : y = 225 := by omega
            subst e
            exact xcw_225
          · have e : y = 226 := by omega
            subst e
            exact xcw_226
        · rcases Nat.lt_or_ge y 228 with h5 | h5
          · have e : y = 227 := by omega
            subst e
            exact xcw_227
          · have e : y = 228 := by omega
            subst e
            exact xcw_228
    · rcases Nat.lt_or_ge y 233 with h3 | h3
      · rcases Nat.lt_or_ge y 231 with h4 | h4
        · rcases Nat.lt_or_ge y 230 with h5 | h5
          · have e : y = 229 := by omega
            subst e
            exact xcw_229
          · have e : y = 230 := by omega
            subst e
            exact xcw_230
        · rcases Nat.lt_or_ge y 232 with h5 | h5
          · have e : y = 231 := by omega
            subst e
            exact xcw_231
          · have e : y = 232 := by omega
            subst e
            exact xcw_232
      · rcases Nat.lt_or_ge y 235 with h4 | h4
        · rcases Nat.lt_or_ge y 234 with h5 | h5
          · have e : y = 233 := by omega
            subst e
            exact xcw_233
          · have e : y = 234 := by omega
            subst e
            exact xcw_234
        · rcases Nat.lt_or_ge y 236 with h5 | h5
          · have e : y = 235 := by omega
            subst e
            exact xcw_235
          · rcases Nat.lt_or_ge y 237 with h6 | h6
            · have e : y = 236 := by omega
              subst e
              exact xcw_236
            · have e : y = 237 := by omega
              subst e
              exact xcw_237
theorem xcp_7 (y : Nat) (h : 238 ≤ y) (h2 : y < 265) : xCodeW y := by
  rcases Nat.lt_or_ge y 251 with h1 | h1
  · rcases Nat.lt_or_ge y 244 with h2 | h2
    · rcases Nat.lt_or_ge y 241 with h3 | h3
      · rcases Nat.lt_or_ge y 239 with h4 | h4
        · have e : y = 238 := by omega
          subst e
          exact xcw_238
        · rcases Nat.lt_or_ge y 240 with h5 | h5
          · have e : y = 239 := by omega
            subst e
            exact xcw_239
          · have e : y = 240 := by omega
            subst e
            exact xcw_240
      · rcases Nat.lt_or_ge y 242 with h4 | h4
        · have e : y = 241 := by omega
          subst e
          exact xcw_241
        · rcases Nat.lt_or_ge y 243 with h5 | h5
          · have e : y = 242 := by omega
            subst e
            exact xcw_242
          · have e : y = 243 := by omega
            subst e
            exact xcw_243
    · rcases Nat.lt_or_ge y 247 with h3 | h3
      · rcases Nat.lt_or_ge y 245 with h4 | h4
        · have e : y = 244 := by omega
          subst e
          exact xcw_244
        · rcases Nat.lt_or_ge y 246 with h5 | h5
          · have e : y = 245 := by omega
            subst e
            exact xcw_245
          · have e : y = 246 := by omega
            subst e
            exact xcw_246
      · rcases Nat.lt_or_ge y 249 with h4 | h4
        · rcases Nat.lt_or_ge y 248 with h5 | h5
          · have e : y = 247 := by omega
            subst e
            exact xcw_247
          · have e : y = 248 := by omega
            subst e
            exact xcw_248
        · rcases Nat.lt_or_ge y 250 with h5 | h5
          · have e : y = 249 := by omega
            subst e
            exact xcw_249
          · have e : y = 250 := by omega
            subst e
            exact xcw_250
  · rcases Nat.lt_or_ge y 258 with h2 | h2
    · rcases Nat.lt_or_ge y 254 with h3 | h3
      · rcases Nat.lt_or_ge y 252 with h4 | h4
        · have e : y = 251 := by omega
          subst e
          exact xcw_251
        · rcases Nat.lt_or_ge y 253 with h5 | h5
          · have e : y = 252 := by omega
            subst e
            exact xcw_252
          · have e : y = 253 := by omega
            subst e
            exact xcw_253
      · rcases Nat.lt_or_ge y 256 with h4 | h4
        · rcases Nat.lt_or_ge y 255 with h5 | h5
          · have e : y = 254 := by omega
            subst e
            exact xcw_254
          · have e : y = 255 := by omega
            subst e
            exact xcw_255
        · rcases Nat.lt_or_ge y 257 with h5 | h5
          · have e : y = 256 := by omega
            subst e
            exact xcw_256
          · have e : y = 257 := by omega
            subst e
            exact xcw_257
    · rcases Nat.lt_or_ge y 261 with h3 | h3
      · rcases Nat.lt_or_ge y 259 with h4 | h4
        · have e : y = 258 := by omega
          subst e
          exact xcw_258
        · rcases Nat.lt_or_ge y 260 with h5 | h5
          · have e : y = 259 := by omega
            subst e
            exact xcw_259
          · have e : y = 260 := by omega
            subst e
            exact xcw_260
      · rcases Nat.lt_or_ge y 263 with h4 | h4
        · rcases Nat.lt_or_ge y 262 with h5 | h5
          · have e : y = 261 := by omega
            subst e
            exact xcw_261
          · have e : y = 262 := by omega
            subst e
            exact xcw_262
        · rcases Nat.lt_or_ge y 264 with h5 | h5
          · have e : y = 263 := by omega
            subst e
            exact xcw_263
          · have e : y = 264 := by omega
            subst e
            exact xcw_264
theorem xcode_ok (y : Nat) (hy : y < 265) : xCodeW y := by
  rcases Nat.lt_or_ge y 34 with h | h
  · exact xcp_0 y (by omega) h
  rcases Nat.lt_or_ge y 68 with h | h
  · exact xcp_1 y (by omega) h
  rcases Nat.lt_or_ge y 102 with h | h
  · exact xcp_2 y (by omega) h
  rcases Nat.lt_or_ge y 136 with h | h
  · exact xcp_3 y (by omega) h
  rcases Nat.lt_or_ge y 170 with h | h
  · exact xcp_4 y (by omega) h
  rcases Nat.lt_or_ge y 204 with h | h
  · exact xcp_5 y (by omega) h
  rcases Nat.lt_or_ge y 238 with h | h
  · exact xcp_6 y (by omega) h
  exact xcp_7 y h (by omega)
theorem xmax_b : (List.range 265).all (fun y => Nat.beq (xMC y).2.2 (xNm y).2.2.1) = true := by decide +kernel
theorem xmax_ok (y : Nat) (hy : y < 265) : (xMC y).2.2 = (xNm y).2.2.1 := Nat.eq_of_beq_eq_true (List.all_eq_true.mp xmax_b y (List.mem_range.mpr hy))
