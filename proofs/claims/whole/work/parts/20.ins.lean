/-! instruction theorems: names, links, constants, printed by wip/tools/insall.py -/
set_option maxRecDepth 4000 in
theorem q_0 : xms[0]? = some xM_0 := rfl
set_option maxRecDepth 4000 in
theorem q_1 : xms[1]? = some xM_1 := rfl
set_option maxRecDepth 4000 in
theorem q_2 : xms[2]? = some xM_2 := rfl
set_option maxRecDepth 4000 in
theorem q_3 : xms[3]? = some xM_3 := rfl
set_option maxRecDepth 4000 in
theorem q_4 : xms[4]? = some xM_4 := rfl
set_option maxRecDepth 4000 in
theorem q_5 : xms[5]? = some xM_5 := rfl
set_option maxRecDepth 4000 in
theorem q_6 : xms[6]? = some xM_6 := rfl
set_option maxRecDepth 4000 in
theorem q_7 : xms[7]? = some xM_7 := rfl
set_option maxRecDepth 4000 in
theorem q_8 : xms[8]? = some xM_8 := rfl
set_option maxRecDepth 4000 in
theorem q_9 : xms[9]? = some xM_9 := rfl
set_option maxRecDepth 4000 in
theorem q_10 : xms[10]? = some xM_10 := rfl
set_option maxRecDepth 4000 in
theorem q_11 : xms[11]? = some xM_11 := rfl
set_option maxRecDepth 4000 in
theorem q_12 : xms[12]? = some xM_12 := rfl
set_option maxRecDepth 4000 in
theorem q_13 : xms[13]? = some xM_13 := rfl
set_option maxRecDepth 4000 in
theorem q_14 : xms[14]? = some xM_14 := rfl
set_option maxRecDepth 4000 in
theorem q_15 : xms[15]? = some xM_15 := rfl
set_option maxRecDepth 4000 in
theorem q_16 : xms[16]? = some xM_16 := rfl
set_option maxRecDepth 4000 in
theorem q_17 : xms[17]? = some xM_17 := rfl
set_option maxRecDepth 4000 in
theorem q_18 : xms[18]? = some xM_18 := rfl
set_option maxRecDepth 4000 in
theorem q_19 : xms[19]? = some xM_19 := rfl
set_option maxRecDepth 4000 in
theorem q_20 : xms[20]? = some xM_20 := rfl
set_option maxRecDepth 4000 in
theorem q_21 : xms[21]? = some xM_21 := rfl
set_option maxRecDepth 4000 in
theorem q_22 : xms[22]? = some xM_22 := rfl
set_option maxRecDepth 4000 in
theorem q_23 : xms[23]? = some xM_23 := rfl
set_option maxRecDepth 4000 in
theorem q_24 : xms[24]? = some xM_24 := rfl
set_option maxRecDepth 4000 in
theorem q_25 : xms[25]? = some xM_25 := rfl
set_option maxRecDepth 4000 in
theorem q_26 : xms[26]? = some xM_26 := rfl
set_option maxRecDepth 4000 in
theorem q_27 : xms[27]? = some xM_27 := rfl
set_option maxRecDepth 4000 in
theorem q_28 : xms[28]? = some xM_28 := rfl
set_option maxRecDepth 4000 in
theorem q_29 : xms[29]? = some xM_29 := rfl
set_option maxRecDepth 4000 in
theorem q_30 : xms[30]? = some xM_30 := rfl
set_option maxRecDepth 4000 in
theorem q_31 : xms[31]? = some xM_31 := rfl
set_option maxRecDepth 4000 in
theorem q_32 : xms[32]? = some xM_32 := rfl
set_option maxRecDepth 4000 in
theorem q_33 : xms[33]? = some xM_33 := rfl
set_option maxRecDepth 4000 in
theorem q_34 : xms[34]? = some xM_34 := rfl
set_option maxRecDepth 4000 in
theorem q_35 : xms[35]? = some xM_35 := rfl
set_option maxRecDepth 4000 in
theorem q_36 : xms[36]? = some xM_36 := rfl
set_option maxRecDepth 4000 in
theorem q_37 : xms[37]? = some xM_37 := rfl
set_option maxRecDepth 4000 in
theorem q_38 : xms[38]? = some xM_38 := rfl
set_option maxRecDepth 4000 in
theorem q_39 : xms[39]? = some xM_39 := rfl
set_option maxRecDepth 4000 in
theorem q_40 : xms[40]? = some xM_40 := rfl
set_option maxRecDepth 4000 in
theorem q_41 : xms[41]? = some xM_41 := rfl
set_option maxRecDepth 4000 in
theorem q_42 : xms[42]? = some xM_42 := rfl
set_option maxRecDepth 4000 in
theorem q_43 : xms[43]? = some xM_43 := rfl
set_option maxRecDepth 4000 in
theorem q_44 : xms[44]? = some xM_44 := rfl
set_option maxRecDepth 4000 in
theorem q_45 : xms[45]? = some xM_45 := rfl
set_option maxRecDepth 4000 in
theorem q_46 : xms[46]? = some xM_46 := rfl
set_option maxRecDepth 4000 in
theorem q_47 : xms[47]? = some xM_47 := rfl
set_option maxRecDepth 4000 in
theorem q_48 : xms[48]? = some xM_48 := rfl
set_option maxRecDepth 4000 in
theorem q_49 : xms[49]? = some xM_49 := rfl
set_option maxRecDepth 4000 in
theorem q_50 : xms[50]? = some xM_50 := rfl
set_option maxRecDepth 4000 in
theorem q_51 : xms[51]? = some xM_51 := rfl
set_option maxRecDepth 4000 in
theorem q_52 : xms[52]? = some xM_52 := rfl
set_option maxRecDepth 4000 in
theorem q_53 : xms[53]? = some xM_53 := rfl
set_option maxRecDepth 4000 in
theorem q_54 : xms[54]? = some xM_54 := rfl
set_option maxRecDepth 4000 in
theorem q_55 : xms[55]? = some xM_55 := rfl
set_option maxRecDepth 4000 in
theorem q_56 : xms[56]? = some xM_56 := rfl
set_option maxRecDepth 4000 in
theorem q_57 : xms[57]? = some xM_57 := rfl
set_option maxRecDepth 4000 in
theorem q_58 : xms[58]? = some xM_58 := rfl
set_option maxRecDepth 4000 in
theorem q_59 : xms[59]? = some xM_59 := rfl
set_option maxRecDepth 4000 in
theorem q_60 : xms[60]? = some xM_60 := rfl
set_option maxRecDepth 4000 in
theorem q_61 : xms[61]? = some xM_61 := rfl
set_option maxRecDepth 4000 in
theorem q_62 : xms[62]? = some xM_62 := rfl
set_option maxRecDepth 4000 in
theorem q_63 : xms[63]? = some xM_63 := rfl
set_option maxRecDepth 4000 in
theorem q_64 : xms[64]? = some xM_64 := rfl
set_option maxRecDepth 4000 in
theorem q_65 : xms[65]? = some xM_65 := rfl
set_option maxRecDepth 4000 in
theorem q_66 : xms[66]? = some xM_66 := rfl
set_option maxRecDepth 4000 in
theorem q_67 : xms[67]? = some xM_67 := rfl
set_option maxRecDepth 4000 in
theorem q_68 : xms[68]? = some xM_68 := rfl
set_option maxRecDepth 4000 in
theorem q_69 : xms[69]? = some xM_69 := rfl
set_option maxRecDepth 4000 in
theorem q_70 : xms[70]? = some xM_70 := rfl
set_option maxRecDepth 4000 in
theorem q_71 : xms[71]? = some xM_71 := rfl
set_option maxRecDepth 4000 in
theorem q_72 : xms[72]? = some xM_72 := rfl
set_option maxRecDepth 4000 in
theorem q_73 : xms[73]? = some xM_73 := rfl
set_option maxRecDepth 4000 in
theorem q_74 : xms[74]? = some xM_74 := rfl
set_option maxRecDepth 4000 in
theorem q_75 : xms[75]? = some xM_75 := rfl
set_option maxRecDepth 4000 in
theorem q_76 : xms[76]? = some xM_76 := rfl
set_option maxRecDepth 4000 in
theorem q_77 : xms[77]? = some xM_77 := rfl
set_option maxRecDepth 4000 in
theorem q_78 : xms[78]? = some xM_78 := rfl
set_option maxRecDepth 4000 in
theorem q_79 : xms[79]? = some xM_79 := rfl
set_option maxRecDepth 4000 in
theorem q_80 : xms[80]? = some xM_80 := rfl
set_option maxRecDepth 4000 in
theorem q_81 : xms[81]? = some xM_81 := rfl
set_option maxRecDepth 4000 in
theorem q_82 : xms[82]? = some xM_82 := rfl
set_option maxRecDepth 4000 in
theorem q_83 : xms[83]? = some xM_83 := rfl
set_option maxRecDepth 4000 in
theorem q_84 : xms[84]? = some xM_84 := rfl
set_option maxRecDepth 4000 in
theorem q_85 : xms[85]? = some xM_85 := rfl
set_option maxRecDepth 4000 in
theorem q_86 : xms[86]? = some xM_86 := rfl
set_option maxRecDepth 4000 in
theorem q_87 : xms[87]? = some xM_87 := rfl
set_option maxRecDepth 4000 in
theorem q_88 : xms[88]? = some xM_88 := rfl
set_option maxRecDepth 4000 in
theorem q_89 : xms[89]? = some xM_89 := rfl
set_option maxRecDepth 4000 in
theorem q_90 : xms[90]? = some xM_90 := rfl
set_option maxRecDepth 4000 in
theorem q_91 : xms[91]? = some xM_91 := rfl
set_option maxRecDepth 4000 in
theorem q_92 : xms[92]? = some xM_92 := rfl
set_option maxRecDepth 4000 in
theorem q_93 : xms[93]? = some xM_93 := rfl
set_option maxRecDepth 4000 in
theorem q_94 : xms[94]? = some xM_94 := rfl
set_option maxRecDepth 4000 in
theorem q_95 : xms[95]? = some xM_95 := rfl
set_option maxRecDepth 4000 in
theorem q_96 : xms[96]? = some xM_96 := rfl
set_option maxRecDepth 4000 in
theorem q_97 : xms[97]? = some xM_97 := rfl
set_option maxRecDepth 4000 in
theorem q_98 : xms[98]? = some xM_98 := rfl
set_option maxRecDepth 4000 in
theorem q_99 : xms[99]? = some xM_99 := rfl
set_option maxRecDepth 4000 in
theorem q_100 : xms[100]? = some xM_100 := rfl
set_option maxRecDepth 4000 in
theorem q_101 : xms[101]? = some xM_101 := rfl
set_option maxRecDepth 4000 in
theorem q_102 : xms[102]? = some xM_102 := rfl
set_option maxRecDepth 4000 in
theorem q_103 : xms[103]? = some xM_103 := rfl
set_option maxRecDepth 4000 in
theorem q_104 : xms[104]? = some xM_104 := rfl
set_option maxRecDepth 4000 in
theorem q_105 : xms[105]? = some xM_105 := rfl
set_option maxRecDepth 4000 in
theorem q_106 : xms[106]? = some xM_106 := rfl
set_option maxRecDepth 4000 in
theorem q_107 : xms[107]? = some xM_107 := rfl
set_option maxRecDepth 4000 in
theorem q_108 : xms[108]? = some xM_108 := rfl
set_option maxRecDepth 4000 in
theorem q_109 : xms[109]? = some xM_109 := rfl
set_option maxRecDepth 4000 in
theorem q_110 : xms[110]? = some xM_110 := rfl
set_option maxRecDepth 4000 in
theorem q_111 : xms[111]? = some xM_111 := rfl
set_option maxRecDepth 4000 in
theorem q_112 : xms[112]? = some xM_112 := rfl
set_option maxRecDepth 4000 in
theorem q_113 : xms[113]? = some xM_113 := rfl
set_option maxRecDepth 4000 in
theorem q_114 : xms[114]? = some xM_114 := rfl
set_option maxRecDepth 4000 in
theorem q_115 : xms[115]? = some xM_115 := rfl
set_option maxRecDepth 4000 in
theorem q_116 : xms[116]? = some xM_116 := rfl
set_option maxRecDepth 4000 in
theorem q_117 : xms[117]? = some xM_117 := rfl
set_option maxRecDepth 4000 in
theorem q_118 : xms[118]? = some xM_118 := rfl
set_option maxRecDepth 4000 in
theorem q_119 : xms[119]? = some xM_119 := rfl
set_option maxRecDepth 4000 in
theorem q_120 : xms[120]? = some xM_120 := rfl
set_option maxRecDepth 4000 in
theorem q_121 : xms[121]? = some xM_121 := rfl
set_option maxRecDepth 4000 in
theorem q_122 : xms[122]? = some xM_122 := rfl
set_option maxRecDepth 4000 in
theorem q_123 : xms[123]? = some xM_123 := rfl
set_option maxRecDepth 4000 in
theorem q_124 : xms[124]? = some xM_124 := rfl
set_option maxRecDepth 4000 in
theorem q_125 : xms[125]? = some xM_125 := rfl
set_option maxRecDepth 4000 in
theorem q_126 : xms[126]? = some xM_126 := rfl
set_option maxRecDepth 4000 in
theorem q_127 : xms[127]? = some xM_127 := rfl
set_option maxRecDepth 4000 in
theorem q_128 : xms[128]? = some xM_128 := rfl
set_option maxRecDepth 4000 in
theorem q_129 : xms[129]? = some xM_129 := rfl
set_option maxRecDepth 4000 in
theorem q_130 : xms[130]? = some xM_130 := rfl
set_option maxRecDepth 4000 in
theorem q_131 : xms[131]? = some xM_131 := rfl
set_option maxRecDepth 4000 in
theorem q_132 : xms[132]? = some xM_132 := rfl
set_option maxRecDepth 4000 in
theorem q_133 : xms[133]? = some xM_133 := rfl
set_option maxRecDepth 4000 in
theorem q_134 : xms[134]? = some xM_134 := rfl
set_option maxRecDepth 4000 in
theorem q_135 : xms[135]? = some xM_135 := rfl
set_option maxRecDepth 4000 in
theorem q_136 : xms[136]? = some xM_136 := rfl
set_option maxRecDepth 4000 in
theorem q_137 : xms[137]? = some xM_137 := rfl
set_option maxRecDepth 4000 in
theorem q_138 : xms[138]? = some xM_138 := rfl
set_option maxRecDepth 4000 in
theorem q_139 : xms[139]? = some xM_139 := rfl
set_option maxRecDepth 4000 in
theorem q_140 : xms[140]? = some xM_140 := rfl
set_option maxRecDepth 4000 in
theorem q_141 : xms[141]? = some xM_141 := rfl
set_option maxRecDepth 4000 in
theorem q_142 : xms[142]? = some xM_142 := rfl
set_option maxRecDepth 4000 in
theorem q_143 : xms[143]? = some xM_143 := rfl
set_option maxRecDepth 4000 in
theorem q_144 : xms[144]? = some xM_144 := rfl
set_option maxRecDepth 4000 in
theorem q_145 : xms[145]? = some xM_145 := rfl
set_option maxRecDepth 4000 in
theorem q_146 : xms[146]? = some xM_146 := rfl
set_option maxRecDepth 4000 in
theorem q_147 : xms[147]? = some xM_147 := rfl
set_option maxRecDepth 4000 in
theorem q_148 : xms[148]? = some xM_148 := rfl
set_option maxRecDepth 4000 in
theorem q_149 : xms[149]? = some xM_149 := rfl
set_option maxRecDepth 4000 in
theorem q_150 : xms[150]? = some xM_150 := rfl
set_option maxRecDepth 4000 in
theorem q_151 : xms[151]? = some xM_151 := rfl
set_option maxRecDepth 4000 in
theorem q_152 : xms[152]? = some xM_152 := rfl
set_option maxRecDepth 4000 in
theorem q_153 : xms[153]? = some xM_153 := rfl
set_option maxRecDepth 4000 in
theorem q_154 : xms[154]? = some xM_154 := rfl
set_option maxRecDepth 4000 in
theorem q_155 : xms[155]? = some xM_155 := rfl
set_option maxRecDepth 4000 in
theorem q_156 : xms[156]? = some xM_156 := rfl
set_option maxRecDepth 4000 in
theorem q_157 : xms[157]? = some xM_157 := rfl
set_option maxRecDepth 4000 in
theorem q_158 : xms[158]? = some xM_158 := rfl
set_option maxRecDepth 4000 in
theorem q_159 : xms[159]? = some xM_159 := rfl
set_option maxRecDepth 4000 in
theorem q_160 : xms[160]? = some xM_160 := rfl
set_option maxRecDepth 4000 in
theorem q_161 : xms[161]? = some xM_161 := rfl
set_option maxRecDepth 4000 in
theorem q_162 : xms[162]? = some xM_162 := rfl
set_option maxRecDepth 4000 in
theorem q_163 : xms[163]? = some xM_163 := rfl
set_option maxRecDepth 4000 in
theorem q_164 : xms[164]? = some xM_164 := rfl
set_option maxRecDepth 4000 in
theorem q_165 : xms[165]? = some xM_165 := rfl
set_option maxRecDepth 4000 in
theorem q_166 : xms[166]? = some xM_166 := rfl
set_option maxRecDepth 4000 in
theorem q_167 : xms[167]? = some xM_167 := rfl
set_option maxRecDepth 4000 in
theorem q_168 : xms[168]? = some xM_168 := rfl
set_option maxRecDepth 4000 in
theorem q_169 : xms[169]? = some xM_169 := rfl
set_option maxRecDepth 4000 in
theorem q_170 : xms[170]? = some xM_170 := rfl
set_option maxRecDepth 4000 in
theorem q_171 : xms[171]? = some xM_171 := rfl
set_option maxRecDepth 4000 in
theorem q_172 : xms[172]? = some xM_172 := rfl
set_option maxRecDepth 4000 in
theorem q_173 : xms[173]? = some xM_173 := rfl
set_option maxRecDepth 4000 in
theorem q_174 : xms[174]? = some xM_174 := rfl
set_option maxRecDepth 4000 in
theorem q_175 : xms[175]? = some xM_175 := rfl
set_option maxRecDepth 4000 in
theorem q_176 : xms[176]? = some xM_176 := rfl
set_option maxRecDepth 4000 in
theorem q_177 : xms[177]? = some xM_177 := rfl
set_option maxRecDepth 4000 in
theorem q_178 : xms[178]? = some xM_178 := rfl
set_option maxRecDepth 4000 in
theorem q_179 : xms[179]? = some xM_179 := rfl
set_option maxRecDepth 4000 in
theorem q_180 : xms[180]? = some xM_180 := rfl
set_option maxRecDepth 4000 in
theorem q_181 : xms[181]? = some xM_181 := rfl
set_option maxRecDepth 4000 in
theorem q_182 : xms[182]? = some xM_182 := rfl
set_option maxRecDepth 4000 in
theorem q_183 : xms[183]? = some xM_183 := rfl
set_option maxRecDepth 4000 in
theorem q_184 : xms[184]? = some xM_184 := rfl
set_option maxRecDepth 4000 in
theorem q_185 : xms[185]? = some xM_185 := rfl
set_option maxRecDepth 4000 in
theorem q_186 : xms[186]? = some xM_186 := rfl
set_option maxRecDepth 4000 in
theorem q_187 : xms[187]? = some xM_187 := rfl
set_option maxRecDepth 4000 in
theorem q_188 : xms[188]? = some xM_188 := rfl
set_option maxRecDepth 4000 in
theorem q_189 : xms[189]? = some xM_189 := rfl
set_option maxRecDepth 4000 in
theorem q_190 : xms[190]? = some xM_190 := rfl
set_option maxRecDepth 4000 in
theorem q_191 : xms[191]? = some xM_191 := rfl
set_option maxRecDepth 4000 in
theorem q_192 : xms[192]? = some xM_192 := rfl
set_option maxRecDepth 4000 in
theorem q_193 : xms[193]? = some xM_193 := rfl
set_option maxRecDepth 4000 in
theorem q_194 : xms[194]? = some xM_194 := rfl
set_option maxRecDepth 4000 in
theorem q_195 : xms[195]? = some xM_195 := rfl
set_option maxRecDepth 4000 in
theorem q_196 : xms[196]? = some xM_196 := rfl
set_option maxRecDepth 4000 in
theorem q_197 : xms[197]? = some xM_197 := rfl
set_option maxRecDepth 4000 in
theorem q_198 : xms[198]? = some xM_198 := rfl
set_option maxRecDepth 4000 in
theorem q_199 : xms[199]? = some xM_199 := rfl
set_option maxRecDepth 4000 in
theorem q_200 : xms[200]? = some xM_200 := rfl
set_option maxRecDepth 4000 in
theorem q_201 : xms[201]? = some xM_201 := rfl
set_option maxRecDepth 4000 in
theorem q_202 : xms[202]? = some xM_202 := rfl
set_option maxRecDepth 4000 in
theorem q_203 : xms[203]? = some xM_203 := rfl
set_option maxRecDepth 4000 in
theorem q_204 : xms[204]? = some xM_204 := rfl
set_option maxRecDepth 4000 in
theorem q_205 : xms[205]? = some xM_205 := rfl
set_option maxRecDepth 4000 in
theorem q_206 : xms[206]? = some xM_206 := rfl
set_option maxRecDepth 4000 in
theorem q_207 : xms[207]? = some xM_207 := rfl
set_option maxRecDepth 4000 in
theorem q_208 : xms[208]? = some xM_208 := rfl
set_option maxRecDepth 4000 in
theorem q_209 : xms[209]? = some xM_209 := rfl
set_option maxRecDepth 4000 in
theorem q_210 : xms[210]? = some xM_210 := rfl
set_option maxRecDepth 4000 in
theorem q_211 : xms[211]? = some xM_211 := rfl
set_option maxRecDepth 4000 in
theorem q_212 : xms[212]? = some xM_212 := rfl
set_option maxRecDepth 4000 in
theorem q_213 : xms[213]? = some xM_213 := rfl
set_option maxRecDepth 4000 in
theorem q_214 : xms[214]? = some xM_214 := rfl
set_option maxRecDepth 4000 in
theorem q_215 : xms[215]? = some xM_215 := rfl
set_option maxRecDepth 4000 in
theorem q_216 : xms[216]? = some xM_216 := rfl
set_option maxRecDepth 4000 in
theorem q_217 : xms[217]? = some xM_217 := rfl
set_option maxRecDepth 4000 in
theorem q_218 : xms[218]? = some xM_218 := rfl
set_option maxRecDepth 4000 in
theorem q_219 : xms[219]? = some xM_219 := rfl
set_option maxRecDepth 4000 in
theorem q_220 : xms[220]? = some xM_220 := rfl
set_option maxRecDepth 4000 in
theorem q_221 : xms[221]? = some xM_221 := rfl
set_option maxRecDepth 4000 in
theorem q_222 : xms[222]? = some xM_222 := rfl
set_option maxRecDepth 4000 in
theorem q_223 : xms[223]? = some xM_223 := rfl
set_option maxRecDepth 4000 in
theorem q_224 : xms[224]? = some xM_224 := rfl
set_option maxRecDepth 4000 in
theorem q_225 : xms[225]? = some xM_225 := rfl
set_option maxRecDepth 4000 in
theorem q_226 : xms[226]? = some xM_226 := rfl
set_option maxRecDepth 4000 in
theorem q_227 : xms[227]? = some xM_227 := rfl
set_option maxRecDepth 4000 in
theorem q_228 : xms[228]? = some xM_228 := rfl
set_option maxRecDepth 4000 in
theorem q_229 : xms[229]? = some xM_229 := rfl
set_option maxRecDepth 4000 in
theorem q_230 : xms[230]? = some xM_230 := rfl
set_option maxRecDepth 4000 in
theorem q_231 : xms[231]? = some xM_231 := rfl
set_option maxRecDepth 4000 in
theorem q_232 : xms[232]? = some xM_232 := rfl
set_option maxRecDepth 4000 in
theorem q_233 : xms[233]? = some xM_233 := rfl
set_option maxRecDepth 4000 in
theorem q_234 : xms[234]? = some xM_234 := rfl
set_option maxRecDepth 4000 in
theorem q_235 : xms[235]? = some xM_235 := rfl
set_option maxRecDepth 4000 in
theorem q_236 : xms[236]? = some xM_236 := rfl
set_option maxRecDepth 4000 in
theorem q_237 : xms[237]? = some xM_237 := rfl
set_option maxRecDepth 4000 in
theorem q_238 : xms[238]? = some xM_238 := rfl
set_option maxRecDepth 4000 in
theorem q_239 : xms[239]? = some xM_239 := rfl
set_option maxRecDepth 4000 in
theorem q_240 : xms[240]? = some xM_240 := rfl
set_option maxRecDepth 4000 in
theorem q_241 : xms[241]? = some xM_241 := rfl
set_option maxRecDepth 4000 in
theorem q_242 : xms[242]? = some xM_242 := rfl
set_option maxRecDepth 4000 in
theorem q_243 : xms[243]? = some xM_243 := rfl
set_option maxRecDepth 4000 in
theorem q_244 : xms[244]? = some xM_244 := rfl
set_option maxRecDepth 4000 in
theorem q_245 : xms[245]? = some xM_245 := rfl
set_option maxRecDepth 4000 in
theorem q_246 : xms[246]? = some xM_246 := rfl
set_option maxRecDepth 4000 in
theorem q_247 : xms[247]? = some xM_247 := rfl
set_option maxRecDepth 4000 in
theorem q_248 : xms[248]? = some xM_248 := rfl
set_option maxRecDepth 4000 in
theorem q_249 : xms[249]? = some xM_249 := rfl
set_option maxRecDepth 4000 in
theorem q_250 : xms[250]? = some xM_250 := rfl
set_option maxRecDepth 4000 in
theorem q_251 : xms[251]? = some xM_251 := rfl
set_option maxRecDepth 4000 in
theorem q_252 : xms[252]? = some xM_252 := rfl
set_option maxRecDepth 4000 in
theorem q_253 : xms[253]? = some xM_253 := rfl
set_option maxRecDepth 4000 in
theorem q_254 : xms[254]? = some xM_254 := rfl
set_option maxRecDepth 4000 in
theorem q_255 : xms[255]? = some xM_255 := rfl
set_option maxRecDepth 4000 in
theorem q_256 : xms[256]? = some xM_256 := rfl
set_option maxRecDepth 4000 in
theorem q_257 : xms[257]? = some xM_257 := rfl
set_option maxRecDepth 4000 in
theorem q_258 : xms[258]? = some xM_258 := rfl
set_option maxRecDepth 4000 in
theorem q_259 : xms[259]? = some xM_259 := rfl
set_option maxRecDepth 4000 in
theorem q_260 : xms[260]? = some xM_260 := rfl
set_option maxRecDepth 4000 in
theorem q_261 : xms[261]? = some xM_261 := rfl
set_option maxRecDepth 4000 in
theorem q_262 : xms[262]? = some xM_262 := rfl
set_option maxRecDepth 4000 in
theorem q_263 : xms[263]? = some xM_263 := rfl
set_option maxRecDepth 4000 in
theorem q_264 : xms[264]? = some xM_264 := rfl
set_option maxRecDepth 4000 in
theorem q_265 : xms[265]? = some xM_265 := rfl
set_option maxRecDepth 4000 in
theorem q_266 : xms[266]? = some xM_266 := rfl
set_option maxRecDepth 4000 in
theorem q_267 : xms[267]? = some xM_267 := rfl
set_option maxRecDepth 4000 in
theorem q_268 : xms[268]? = some xM_268 := rfl
set_option maxRecDepth 4000 in
theorem q_269 : xms[269]? = some xM_269 := rfl
set_option maxRecDepth 4000 in
theorem q_270 : xms[270]? = some xM_270 := rfl
set_option maxRecDepth 4000 in
theorem q_271 : xms[271]? = some xM_271 := rfl
set_option maxRecDepth 4000 in
theorem q_272 : xms[272]? = some xM_272 := rfl
set_option maxRecDepth 4000 in
theorem q_273 : xms[273]? = some xM_273 := rfl
set_option maxRecDepth 4000 in
theorem q_274 : xms[274]? = some xM_274 := rfl
set_option maxRecDepth 4000 in
theorem q_275 : xms[275]? = some xM_275 := rfl
set_option maxRecDepth 4000 in
theorem q_276 : xms[276]? = some xM_276 := rfl
set_option maxRecDepth 4000 in
theorem q_277 : xms[277]? = some xM_277 := rfl
set_option maxRecDepth 4000 in
theorem q_278 : xms[278]? = some xM_278 := rfl
set_option maxRecDepth 4000 in
theorem q_279 : xms[279]? = some xM_279 := rfl
set_option maxRecDepth 4000 in
theorem q_280 : xms[280]? = some xM_280 := rfl
set_option maxRecDepth 4000 in
theorem q_281 : xms[281]? = some xM_281 := rfl
set_option maxRecDepth 4000 in
theorem q_282 : xms[282]? = some xM_282 := rfl
set_option maxRecDepth 4000 in
theorem q_283 : xms[283]? = some xM_283 := rfl
set_option maxRecDepth 4000 in
theorem q_284 : xms[284]? = some xM_284 := rfl
set_option maxRecDepth 4000 in
theorem q_285 : xms[285]? = some xM_285 := rfl
set_option maxRecDepth 4000 in
theorem q_286 : xms[286]? = some xM_286 := rfl
set_option maxRecDepth 4000 in
theorem q_287 : xms[287]? = some xlaw := rfl
theorem l_0_4 : xlook 0 4 = some (7, 0, 120) := by decide +kernel
theorem l_0_36 : xlook 0 36 = some (3, 2, 123) := by decide +kernel
theorem l_0_37 : xlook 0 37 = some (4, 4, 123) := by decide +kernel
theorem l_0_44 : xlook 0 44 = some (0, 0, 530) := by decide +kernel
theorem l_0_60 : xlook 0 60 = some (3, 1, 125) := by decide +kernel
theorem l_0_68 : xlook 0 68 = some (1, 1, 127) := by decide +kernel
theorem l_0_80 : xlook 0 80 = some (0, 2, 532) := by decide +kernel
theorem l_0_96 : xlook 0 96 = some (2, 2, 150) := by decide +kernel
theorem l_0_100 : xlook 0 100 = some (0, 3, 533) := by decide +kernel
theorem l_0_116 : xlook 0 116 = some (0, 4, 534) := by decide +kernel
theorem l_0_128 : xlook 0 128 = some (3, 4, 220) := by decide +kernel
theorem l_0_136 : xlook 0 136 = some (2, 4, 222) := by decide +kernel
theorem l_0_140 : xlook 0 140 = some (0, 5, 535) := by decide +kernel
theorem l_0_156 : xlook 0 156 = some (3, 5, 264) := by decide +kernel
theorem l_0_164 : xlook 0 164 = some (2, 5, 266) := by decide +kernel
theorem l_0_168 : xlook 0 168 = some (0, 6, 536) := by decide +kernel
theorem l_0_184 : xlook 0 184 = some (0, 10, 540) := by decide +kernel
theorem l_0_200 : xlook 0 200 = some (0, 11, 541) := by decide +kernel
theorem l_0_216 : xlook 0 216 = some (3, 6, 311) := by decide +kernel
theorem l_0_224 : xlook 0 224 = some (2, 6, 313) := by decide +kernel
theorem l_0_228 : xlook 0 228 = some (3, 7, 344) := by decide +kernel
theorem l_0_236 : xlook 0 236 = some (2, 7, 346) := by decide +kernel
theorem l_0_240 : xlook 0 240 = some (0, 128, 178) := by decide +kernel
theorem l_0_252 : xlook 0 252 = some (0, 1, 531) := by decide +kernel
theorem l_0_264 : xlook 0 264 = some (3, 8, 369) := by decide +kernel
theorem l_0_272 : xlook 0 272 = some (1, 8, 371) := by decide +kernel
theorem l_0_284 : xlook 0 284 = some (0, 7, 537) := by decide +kernel
theorem l_0_300 : xlook 0 300 = some (3, 10, 440) := by decide +kernel
theorem l_0_308 : xlook 0 308 = some (1, 10, 442) := by decide +kernel
theorem l_0_320 : xlook 0 320 = some (0, 8, 538) := by decide +kernel
theorem l_0_336 : xlook 0 336 = some (3, 11, 478) := by decide +kernel
theorem l_0_344 : xlook 0 344 = some (1, 11, 480) := by decide +kernel
theorem l_0_348 : xlook 0 348 = some (0, 9, 539) := by decide +kernel
theorem l_0_364 : xlook 0 364 = some (1, 15, 579) := by decide +kernel
theorem l_0_380 : xlook 0 380 = some (8, 14, 582) := by decide +kernel
theorem l_0_388 : xlook 0 388 = some (9, 14, 624) := by decide +kernel
theorem l_0_392 : xlook 0 392 = some (1, 16, 647) := by decide +kernel
theorem l_0_408 : xlook 0 408 = some (0, 65, 134) := by decide +kernel
theorem l_0_420 : xlook 0 420 = some (0, 64, 132) := by decide +kernel
theorem l_0_432 : xlook 0 432 = some (0, 66, 136) := by decide +kernel
theorem l_0_448 : xlook 0 448 = some (0, 67, 138) := by decide +kernel
theorem l_0_460 : xlook 0 460 = some (5, 0, 669) := by decide +kernel
theorem l_0_464 : xlook 0 464 = some (5, 1, 670) := by decide +kernel
theorem l_0_468 : xlook 0 468 = some (1, 22, 671) := by decide +kernel
theorem l_0_480 : xlook 0 480 = some (1, 23, 674) := by decide +kernel
theorem l_0_496 : xlook 0 496 = some (1, 24, 678) := by decide +kernel
theorem l_0_512 : xlook 0 512 = some (1, 27, 690) := by decide +kernel
theorem l_0_528 : xlook 0 528 = some (0, 130, 194) := by decide +kernel
theorem l_0_540 : xlook 0 540 = some (1, 54, 1081) := by decide +kernel
theorem l_0_556 : xlook 0 556 = some (1, 59, 1103) := by decide +kernel
theorem l_0_568 : xlook 0 568 = some (1, 60, 1107) := by decide +kernel
theorem l_0_584 : xlook 0 584 = some (1, 64, 1124) := by decide +kernel
theorem l_0_600 : xlook 0 600 = some (1, 68, 1146) := by decide +kernel
theorem l_0_616 : xlook 0 616 = some (1, 71, 1160) := by decide +kernel
theorem l_0_628 : xlook 0 628 = some (1, 78, 1196) := by decide +kernel
theorem l_0_644 : xlook 0 644 = some (1, 79, 1206) := by decide +kernel
theorem l_0_656 : xlook 0 656 = some (1, 96, 1297) := by decide +kernel
theorem l_0_672 : xlook 0 672 = some (1, 99, 1309) := by decide +kernel
theorem l_0_688 : xlook 0 688 = some (1, 102, 1320) := by decide +kernel
theorem l_0_700 : xlook 0 700 = some (0, 129, 188) := by decide +kernel
theorem l_0_712 : xlook 0 712 = some (1, 17, 1349) := by decide +kernel
theorem l_0_728 : xlook 0 728 = some (1, 107, 1350) := by decide +kernel
theorem l_0_744 : xlook 0 744 = some (1, 55, 1355) := by decide +kernel
theorem l_0_756 : xlook 0 756 = some (1, 108, 1356) := by decide +kernel
theorem l_0_772 : xlook 0 772 = some (0, 257, 242) := by decide +kernel
theorem l_0_788 : xlook 0 788 = some (0, 193, 170) := by decide +kernel
theorem l_0_808 : xlook 0 808 = some (0, 256, 234) := by decide +kernel
theorem l_0_812 : xlook 0 812 = some (1, 109, 1363) := by decide +kernel
theorem l_0_828 : xlook 0 828 = some (1, 113, 1378) := by decide +kernel
theorem l_0_844 : xlook 0 844 = some (1, 118, 1395) := by decide +kernel
theorem l_0_856 : xlook 0 856 = some (1, 48, 1399) := by decide +kernel
theorem l_0_872 : xlook 0 872 = some (1, 119, 1400) := by decide +kernel
theorem l_0_888 : xlook 0 888 = some (1, 120, 1405) := by decide +kernel
theorem l_0_900 : xlook 0 900 = some (8, 15, 1419) := by decide +kernel
theorem l_0_908 : xlook 0 908 = some (9, 15, 1428) := by decide +kernel
theorem l_0_912 : xlook 0 912 = some (8, 16, 1442) := by decide +kernel
theorem l_0_920 : xlook 0 920 = some (9, 16, 1451) := by decide +kernel
theorem l_0_924 : xlook 0 924 = some (0, 131, 202) := by decide +kernel
theorem l_0_936 : xlook 0 936 = some (0, 132, 208) := by decide +kernel
theorem l_0_948 : xlook 0 948 = some (1, 35, 1464) := by decide +kernel
theorem l_0_964 : xlook 0 964 = some (6, 2, 1465) := by decide +kernel
theorem l_0_972 : xlook 0 972 = some (6, 5, 1473) := by decide +kernel
theorem l_0_980 : xlook 0 980 = some (6, 6, 1474) := by decide +kernel
theorem l_0_988 : xlook 0 988 = some (1, 131, 1482) := by decide +kernel
theorem l_0_1004 : xlook 0 1004 = some (1, 134, 1499) := by decide +kernel
theorem l_0_1020 : xlook 0 1020 = some (1, 135, 1505) := by decide +kernel
theorem l_0_1032 : xlook 0 1032 = some (8, 17, 1519) := by decide +kernel
theorem l_0_1040 : xlook 0 1040 = some (9, 17, 1528) := by decide +kernel
theorem l_0_1044 : xlook 0 1044 = some (1, 138, 1534) := by decide +kernel
theorem l_0_1056 : xlook 0 1056 = some (1, 143, 1552) := by decide +kernel
theorem l_0_1072 : xlook 0 1072 = some (0, 645, 454) := by decide +kernel
theorem l_0_1076 : xlook 0 1076 = some (0, 646, 456) := by decide +kernel
theorem l_0_1080 : xlook 0 1080 = some (1, 149, 1604) := by decide +kernel
theorem l_0_1096 : xlook 0 1096 = some (1, 152, 1632) := by decide +kernel
theorem l_0_1108 : xlook 0 1108 = some (1, 154, 1650) := by decide +kernel
theorem l_0_1120 : xlook 0 1120 = some (1, 159, 1679) := by decide +kernel
theorem l_0_1136 : xlook 0 1136 = some (0, 707, 493) := by decide +kernel
theorem l_0_1148 : xlook 0 1148 = some (0, 706, 491) := by decide +kernel
theorem l_1_12 : xlook 1 12 = some (7, 0, 130) := by decide +kernel
theorem l_1_36 : xlook 1 36 = some (0, 67, 137) := by decide +kernel
theorem l_1_60 : xlook 1 60 = some (0, 64, 131) := by decide +kernel
theorem l_1_72 : xlook 1 72 = some (0, 65, 133) := by decide +kernel
theorem l_1_84 : xlook 1 84 = some (0, 66, 135) := by decide +kernel
theorem l_1_100 : xlook 1 100 = some (1, 16, 1133) := by decide +kernel
theorem l_1_124 : xlook 1 124 = some (1, 28, 694) := by decide +kernel
theorem l_1_144 : xlook 1 144 = some (0, 128, 183) := by decide +kernel
theorem l_1_156 : xlook 1 156 = some (1, 30, 706) := by decide +kernel
theorem l_1_172 : xlook 1 172 = some (1, 31, 710) := by decide +kernel
theorem l_1_188 : xlook 1 188 = some (1, 32, 739) := by decide +kernel
theorem l_1_204 : xlook 1 204 = some (1, 38, 740) := by decide +kernel
theorem l_1_220 : xlook 1 220 = some (0, 129, 187) := by decide +kernel
theorem l_1_232 : xlook 1 232 = some (0, 131, 201) := by decide +kernel
theorem l_1_240 : xlook 1 240 = some (0, 256, 230) := by decide +kernel
theorem l_1_252 : xlook 1 252 = some (1, 46, 1043) := by decide +kernel
theorem l_1_268 : xlook 1 268 = some (1, 50, 1060) := by decide +kernel
theorem l_1_284 : xlook 1 284 = some (1, 37, 1047) := by decide +kernel
theorem l_1_300 : xlook 1 300 = some (1, 47, 1048) := by decide +kernel
theorem l_1_316 : xlook 1 316 = some (1, 48, 1052) := by decide +kernel
theorem l_1_332 : xlook 1 332 = some (0, 259, 252) := by decide +kernel
theorem l_1_344 : xlook 1 344 = some (0, 257, 238) := by decide +kernel
theorem l_1_360 : xlook 1 360 = some (1, 51, 1064) := by decide +kernel
theorem l_1_380 : xlook 1 380 = some (1, 29, 1071) := by decide +kernel
theorem l_1_392 : xlook 1 392 = some (1, 39, 1072) := by decide +kernel
theorem l_1_404 : xlook 1 404 = some (1, 23, 1073) := by decide +kernel
theorem l_1_416 : xlook 1 416 = some (0, 130, 195) := by decide +kernel
theorem l_1_420 : xlook 1 420 = some (1, 55, 1404) := by decide +kernel
theorem l_1_436 : xlook 1 436 = some (1, 42, 1409) := by decide +kernel
theorem l_1_452 : xlook 1 452 = some (0, 258, 248) := by decide +kernel
theorem l_1_464 : xlook 1 464 = some (1, 93, 1410) := by decide +kernel
theorem l_2_12 : xlook 2 12 = some (7, 0, 153) := by decide +kernel
theorem l_2_36 : xlook 2 36 = some (0, 128, 177) := by decide +kernel
theorem l_2_60 : xlook 2 60 = some (0, 129, 184) := by decide +kernel
theorem l_2_72 : xlook 2 72 = some (0, 130, 189) := by decide +kernel
theorem l_2_88 : xlook 2 88 = some (0, 131, 196) := by decide +kernel
theorem l_2_100 : xlook 2 100 = some (3, 3, 154) := by decide +kernel
theorem l_2_108 : xlook 2 108 = some (2, 3, 156) := by decide +kernel
theorem l_2_112 : xlook 2 112 = some (0, 132, 203) := by decide +kernel
theorem l_2_128 : xlook 2 128 = some (1, 17, 651) := by decide +kernel
theorem l_2_144 : xlook 2 144 = some (1, 56, 1354) := by decide +kernel
theorem l_2_160 : xlook 2 160 = some (1, 40, 750) := by decide +kernel
theorem l_2_176 : xlook 2 176 = some (1, 49, 1056) := by decide +kernel
theorem l_2_188 : xlook 2 188 = some (1, 28, 744) := by decide +kernel
theorem l_2_208 : xlook 2 208 = some (0, 256, 233) := by decide +kernel
theorem l_2_212 : xlook 2 212 = some (1, 23, 745) := by decide +kernel
theorem l_2_228 : xlook 2 228 = some (1, 39, 746) := by decide +kernel
theorem l_2_244 : xlook 2 244 = some (0, 257, 241) := by decide +kernel
theorem l_2_256 : xlook 2 256 = some (1, 29, 1024) := by decide +kernel
theorem l_2_268 : xlook 2 268 = some (1, 42, 1025) := by decide +kernel
theorem l_2_284 : xlook 2 284 = some (1, 43, 1030) := by decide +kernel
theorem l_2_296 : xlook 2 296 = some (1, 44, 1034) := by decide +kernel
theorem l_2_308 : xlook 2 308 = some (1, 51, 1678) := by decide +kernel
theorem l_2_320 : xlook 2 320 = some (1, 110, 1366) := by decide +kernel
theorem l_2_332 : xlook 2 332 = some (1, 92, 1370) := by decide +kernel
theorem l_2_348 : xlook 2 348 = some (6, 7, 1486) := by decide +kernel
theorem l_2_356 : xlook 2 356 = some (6, 3, 1487) := by decide +kernel
theorem l_2_364 : xlook 2 364 = some (6, 8, 1488) := by decide +kernel
theorem l_2_372 : xlook 2 372 = some (1, 35, 1489) := by decide +kernel
theorem l_2_388 : xlook 2 388 = some (6, 2, 1490) := by decide +kernel
theorem l_2_396 : xlook 2 396 = some (6, 5, 1491) := by decide +kernel
theorem l_3_12 : xlook 3 12 = some (7, 0, 159) := by decide +kernel
theorem l_3_36 : xlook 3 36 = some (0, 192, 160) := by decide +kernel
theorem l_3_60 : xlook 3 60 = some (0, 193, 162) := by decide +kernel
theorem l_3_76 : xlook 3 76 = some (1, 273, 758) := by decide +kernel
theorem l_3_100 : xlook 3 100 = some (1, 281, 761) := by decide +kernel
theorem l_3_124 : xlook 3 124 = some (1, 41, 754) := by decide +kernel
theorem l_3_140 : xlook 3 140 = some (1, 26, 686) := by decide +kernel
theorem l_3_152 : xlook 3 152 = some (1, 279, 775) := by decide +kernel
theorem l_3_168 : xlook 3 168 = some (11, 0, 1094) := by decide +kernel
theorem l_3_192 : xlook 3 192 = some (1, 29, 1029) := by decide +kernel
theorem l_3_208 : xlook 3 208 = some (1, 35, 729) := by decide +kernel
theorem l_3_224 : xlook 3 224 = some (1, 277, 702) := by decide +kernel
theorem l_3_244 : xlook 3 244 = some (1, 272, 722) := by decide +kernel
theorem l_3_256 : xlook 3 256 = some (1, 278, 1068) := by decide +kernel
theorem l_3_268 : xlook 3 268 = some (1, 45, 1038) := by decide +kernel
theorem l_3_280 : xlook 3 280 = some (6, 2, 1042) := by decide +kernel
theorem l_3_288 : xlook 3 288 = some (1, 70, 1156) := by decide +kernel
theorem l_4_12 : xlook 4 12 = some (7, 0, 225) := by decide +kernel
theorem l_4_36 : xlook 4 36 = some (3, 3, 226) := by decide +kernel
theorem l_4_44 : xlook 4 44 = some (2, 3, 227) := by decide +kernel
theorem l_4_48 : xlook 4 48 = some (0, 257, 235) := by decide +kernel
theorem l_4_72 : xlook 4 72 = some (0, 256, 228) := by decide +kernel
theorem l_4_88 : xlook 4 88 = some (1, 25, 682) := by decide +kernel
theorem l_4_104 : xlook 4 104 = some (0, 258, 243) := by decide +kernel
theorem l_4_120 : xlook 4 120 = some (0, 259, 249) := by decide +kernel
theorem l_4_132 : xlook 4 132 = some (0, 130, 192) := by decide +kernel
theorem l_4_144 : xlook 4 144 = some (0, 132, 204) := by decide +kernel
theorem l_4_156 : xlook 4 156 = some (1, 56, 1090) := by decide +kernel
theorem l_4_172 : xlook 4 172 = some (0, 131, 198) := by decide +kernel
theorem l_4_184 : xlook 4 184 = some (0, 128, 179) := by decide +kernel
theorem l_4_196 : xlook 4 196 = some (1, 29, 698) := by decide +kernel
theorem l_4_212 : xlook 4 212 = some (1, 33, 718) := by decide +kernel
theorem l_4_228 : xlook 4 228 = some (1, 32, 714) := by decide +kernel
theorem l_4_240 : xlook 4 240 = some (1, 34, 725) := by decide +kernel
theorem l_4_252 : xlook 4 252 = some (1, 36, 733) := by decide +kernel
theorem l_4_268 : xlook 4 268 = some (1, 37, 736) := by decide +kernel
theorem l_4_284 : xlook 4 284 = some (1, 31, 1360) := by decide +kernel
theorem l_4_300 : xlook 4 300 = some (1, 42, 1361) := by decide +kernel
theorem l_4_316 : xlook 4 316 = some (1, 44, 1362) := by decide +kernel
theorem l_4_332 : xlook 4 332 = some (1, 28, 1503) := by decide +kernel
theorem l_4_340 : xlook 4 340 = some (1, 51, 1504) := by decide +kernel
theorem l_4_352 : xlook 4 352 = some (0, 193, 169) := by decide +kernel
theorem l_4_364 : xlook 4 364 = some (1, 35, 1509) := by decide +kernel
theorem l_4_380 : xlook 4 380 = some (6, 2, 1510) := by decide +kernel
theorem l_5_12 : xlook 5 12 = some (7, 0, 269) := by decide +kernel
theorem l_5_36 : xlook 5 36 = some (3, 3, 270) := by decide +kernel
theorem l_5_44 : xlook 5 44 = some (2, 3, 271) := by decide +kernel
theorem l_5_48 : xlook 5 48 = some (0, 320, 274) := by decide +kernel
theorem l_5_72 : xlook 5 72 = some (0, 321, 275) := by decide +kernel
theorem l_5_84 : xlook 5 84 = some (0, 322, 276) := by decide +kernel
theorem l_5_96 : xlook 5 96 = some (3, 4, 272) := by decide +kernel
theorem l_5_104 : xlook 5 104 = some (2, 4, 273) := by decide +kernel
theorem l_5_108 : xlook 5 108 = some (0, 323, 277) := by decide +kernel
theorem l_5_124 : xlook 5 124 = some (0, 193, 163) := by decide +kernel
theorem l_5_140 : xlook 5 140 = some (0, 324, 278) := by decide +kernel
theorem l_5_152 : xlook 5 152 = some (0, 325, 279) := by decide +kernel
theorem l_5_168 : xlook 5 168 = some (0, 326, 280) := by decide +kernel
theorem l_5_180 : xlook 5 180 = some (0, 327, 281) := by decide +kernel
theorem l_5_192 : xlook 5 192 = some (0, 328, 282) := by decide +kernel
theorem l_5_204 : xlook 5 204 = some (0, 329, 283) := by decide +kernel
theorem l_5_216 : xlook 5 216 = some (0, 330, 284) := by decide +kernel
theorem l_5_228 : xlook 5 228 = some (0, 331, 285) := by decide +kernel
theorem l_5_240 : xlook 5 240 = some (0, 130, 190) := by decide +kernel
theorem l_5_260 : xlook 5 260 = some (0, 129, 186) := by decide +kernel
theorem l_5_272 : xlook 5 272 = some (0, 132, 205) := by decide +kernel
theorem l_5_284 : xlook 5 284 = some (0, 131, 199) := by decide +kernel
theorem l_5_296 : xlook 5 296 = some (0, 128, 180) := by decide +kernel
theorem l_5_308 : xlook 5 308 = some (1, 61, 1111) := by decide +kernel
theorem l_5_324 : xlook 5 324 = some (1, 63, 1120) := by decide +kernel
theorem l_5_340 : xlook 5 340 = some (1, 69, 1301) := by decide +kernel
theorem l_5_356 : xlook 5 356 = some (1, 42, 1115) := by decide +kernel
theorem l_5_372 : xlook 5 372 = some (1, 62, 1116) := by decide +kernel
theorem l_5_384 : xlook 5 384 = some (1, 16, 1128) := by decide +kernel
theorem l_5_400 : xlook 5 400 = some (1, 65, 1129) := by decide +kernel
theorem l_5_424 : xlook 5 424 = some (1, 47, 1134) := by decide +kernel
theorem l_5_440 : xlook 5 440 = some (1, 66, 1135) := by decide +kernel
theorem l_5_456 : xlook 5 456 = some (1, 23, 1139) := by decide +kernel
theorem l_5_468 : xlook 5 468 = some (0, 256, 231) := by decide +kernel
theorem l_5_472 : xlook 5 472 = some (0, 257, 239) := by decide +kernel
theorem l_5_484 : xlook 5 484 = some (1, 56, 1140) := by decide +kernel
theorem l_5_500 : xlook 5 500 = some (1, 67, 1141) := by decide +kernel
theorem l_5_512 : xlook 5 512 = some (0, 258, 246) := by decide +kernel
theorem l_5_524 : xlook 5 524 = some (0, 259, 253) := by decide +kernel
theorem l_5_536 : xlook 5 536 = some (1, 27, 1145) := by decide +kernel
theorem l_6_4 : xlook 6 4 = some (7, 0, 316) := by decide +kernel
theorem l_6_28 : xlook 6 28 = some (3, 3, 317) := by decide +kernel
theorem l_6_36 : xlook 6 36 = some (2, 3, 318) := by decide +kernel
theorem l_6_40 : xlook 6 40 = some (0, 384, 319) := by decide +kernel
theorem l_6_64 : xlook 6 64 = some (0, 385, 324) := by decide +kernel
theorem l_6_76 : xlook 6 76 = some (0, 386, 325) := by decide +kernel
theorem l_6_88 : xlook 6 88 = some (1, 56, 1234) := by decide +kernel
theorem l_6_104 : xlook 6 104 = some (0, 388, 329) := by decide +kernel
theorem l_6_120 : xlook 6 120 = some (1, 84, 1235) := by decide +kernel
theorem l_6_136 : xlook 6 136 = some (1, 25, 1244) := by decide +kernel
theorem l_6_152 : xlook 6 152 = some (0, 387, 326) := by decide +kernel
theorem l_6_168 : xlook 6 168 = some (1, 277, 1245) := by decide +kernel
theorem l_6_192 : xlook 6 192 = some (1, 80, 1246) := by decide +kernel
theorem l_6_204 : xlook 6 204 = some (1, 86, 1247) := by decide +kernel
theorem l_6_216 : xlook 6 216 = some (1, 69, 1251) := by decide +kernel
theorem l_6_232 : xlook 6 232 = some (0, 193, 166) := by decide +kernel
theorem l_6_244 : xlook 6 244 = some (1, 33, 1239) := by decide +kernel
theorem l_6_260 : xlook 6 260 = some (1, 85, 1240) := by decide +kernel
theorem l_7_12 : xlook 7 12 = some (7, 0, 349) := by decide +kernel
theorem l_7_36 : xlook 7 36 = some (3, 3, 350) := by decide +kernel
theorem l_7_44 : xlook 7 44 = some (2, 3, 351) := by decide +kernel
theorem l_7_48 : xlook 7 48 = some (0, 448, 352) := by decide +kernel
theorem l_7_72 : xlook 7 72 = some (0, 449, 357) := by decide +kernel
theorem l_7_84 : xlook 7 84 = some (0, 450, 361) := by decide +kernel
theorem l_7_96 : xlook 7 96 = some (0, 193, 164) := by decide +kernel
theorem l_7_112 : xlook 7 112 = some (1, 56, 1170) := by decide +kernel
theorem l_7_128 : xlook 7 128 = some (1, 29, 1171) := by decide +kernel
theorem l_7_144 : xlook 7 144 = some (1, 42, 1172) := by decide +kernel
theorem l_7_160 : xlook 7 160 = some (1, 45, 1173) := by decide +kernel
theorem l_7_176 : xlook 7 176 = some (0, 192, 161) := by decide +kernel
theorem l_7_192 : xlook 7 192 = some (1, 73, 1174) := by decide +kernel
theorem l_7_208 : xlook 7 208 = some (1, 26, 1194) := by decide +kernel
theorem l_7_220 : xlook 7 220 = some (6, 2, 1178) := by decide +kernel
theorem l_7_228 : xlook 7 228 = some (1, 74, 1179) := by decide +kernel
theorem l_7_244 : xlook 7 244 = some (1, 75, 1182) := by decide +kernel
theorem l_7_260 : xlook 7 260 = some (1, 76, 1186) := by decide +kernel
theorem l_7_276 : xlook 7 276 = some (1, 77, 1190) := by decide +kernel
theorem l_7_292 : xlook 7 292 = some (6, 3, 1185) := by decide +kernel
theorem l_8_12 : xlook 8 12 = some (7, 0, 374) := by decide +kernel
theorem l_8_36 : xlook 8 36 = some (3, 4, 375) := by decide +kernel
theorem l_8_44 : xlook 8 44 = some (2, 4, 376) := by decide +kernel
theorem l_8_48 : xlook 8 48 = some (0, 516, 422) := by decide +kernel
theorem l_8_72 : xlook 8 72 = some (3, 3, 377) := by decide +kernel
theorem l_8_80 : xlook 8 80 = some (2, 3, 378) := by decide +kernel
theorem l_8_84 : xlook 8 84 = some (0, 517, 423) := by decide +kernel
theorem l_8_100 : xlook 8 100 = some (0, 518, 424) := by decide +kernel
theorem l_8_112 : xlook 8 112 = some (0, 512, 418) := by decide +kernel
theorem l_8_128 : xlook 8 128 = some (0, 513, 419) := by decide +kernel
theorem l_8_144 : xlook 8 144 = some (0, 514, 420) := by decide +kernel
theorem l_8_160 : xlook 8 160 = some (3, 9, 379) := by decide +kernel
theorem l_8_168 : xlook 8 168 = some (1, 9, 381) := by decide +kernel
theorem l_8_180 : xlook 8 180 = some (0, 515, 421) := by decide +kernel
theorem l_8_196 : xlook 8 196 = some (0, 129, 185) := by decide +kernel
theorem l_8_220 : xlook 8 220 = some (1, 17, 1085) := by decide +kernel
theorem l_8_236 : xlook 8 236 = some (1, 55, 1086) := by decide +kernel
theorem l_8_252 : xlook 8 252 = some (0, 256, 229) := by decide +kernel
theorem l_8_268 : xlook 8 268 = some (1, 27, 1095) := by decide +kernel
theorem l_8_292 : xlook 8 292 = some (0, 130, 191) := by decide +kernel
theorem l_8_296 : xlook 8 296 = some (1, 16, 1150) := by decide +kernel
theorem l_8_312 : xlook 8 312 = some (1, 65, 1151) := by decide +kernel
theorem l_8_328 : xlook 8 328 = some (0, 257, 236) := by decide +kernel
theorem l_8_340 : xlook 8 340 = some (0, 132, 207) := by decide +kernel
theorem l_8_352 : xlook 8 352 = some (1, 69, 1152) := by decide +kernel
theorem l_8_368 : xlook 8 368 = some (0, 131, 200) := by decide +kernel
theorem l_8_380 : xlook 8 380 = some (0, 128, 182) := by decide +kernel
theorem l_8_392 : xlook 8 392 = some (0, 258, 244) := by decide +kernel
theorem l_8_404 : xlook 8 404 = some (0, 259, 250) := by decide +kernel
theorem l_8_416 : xlook 8 416 = some (0, 67, 139) := by decide +kernel
theorem l_8_428 : xlook 8 428 = some (1, 273, 1164) := by decide +kernel
theorem l_8_452 : xlook 8 452 = some (1, 42, 1165) := by decide +kernel
theorem l_8_468 : xlook 8 468 = some (1, 72, 1166) := by decide +kernel
theorem l_8_488 : xlook 8 488 = some (0, 448, 354) := by decide +kernel
theorem l_8_500 : xlook 8 500 = some (1, 56, 1195) := by decide +kernel
theorem l_8_516 : xlook 8 516 = some (0, 449, 358) := by decide +kernel
theorem l_8_528 : xlook 8 528 = some (0, 193, 167) := by decide +kernel
theorem l_8_540 : xlook 8 540 = some (1, 23, 1200) := by decide +kernel
theorem l_8_556 : xlook 8 556 = some (1, 272, 1201) := by decide +kernel
theorem l_8_568 : xlook 8 568 = some (1, 34, 1202) := by decide +kernel
theorem l_8_584 : xlook 8 584 = some (1, 66, 1203) := by decide +kernel
theorem l_8_600 : xlook 8 600 = some (1, 36, 1204) := by decide +kernel
theorem l_8_616 : xlook 8 616 = some (1, 67, 1205) := by decide +kernel
theorem l_8_628 : xlook 8 628 = some (1, 47, 1210) := by decide +kernel
theorem l_8_640 : xlook 8 640 = some (1, 80, 1211) := by decide +kernel
theorem l_8_652 : xlook 8 652 = some (1, 62, 1215) := by decide +kernel
theorem l_8_664 : xlook 8 664 = some (1, 81, 1216) := by decide +kernel
theorem l_8_680 : xlook 8 680 = some (1, 89, 1265) := by decide +kernel
theorem l_8_696 : xlook 8 696 = some (1, 24, 1324) := by decide +kernel
theorem l_8_712 : xlook 8 712 = some (1, 51, 1325) := by decide +kernel
theorem l_8_724 : xlook 8 724 = some (1, 103, 1326) := by decide +kernel
theorem l_8_740 : xlook 8 740 = some (5, 4, 1341) := by decide +kernel
theorem l_8_744 : xlook 8 744 = some (1, 274, 1330) := by decide +kernel
theorem l_8_760 : xlook 8 760 = some (1, 83, 1333) := by decide +kernel
theorem l_8_784 : xlook 8 784 = some (0, 384, 323) := by decide +kernel
theorem l_8_796 : xlook 8 796 = some (0, 387, 328) := by decide +kernel
theorem l_8_800 : xlook 8 800 = some (0, 388, 331) := by decide +kernel
theorem l_8_812 : xlook 8 812 = some (1, 104, 1334) := by decide +kernel
theorem l_8_828 : xlook 8 828 = some (1, 29, 1338) := by decide +kernel
theorem l_8_840 : xlook 8 840 = some (1, 44, 1340) := by decide +kernel
theorem l_8_852 : xlook 8 852 = some (1, 40, 1339) := by decide +kernel
theorem l_9_12 : xlook 9 12 = some (7, 0, 384) := by decide +kernel
theorem l_9_36 : xlook 9 36 = some (3, 3, 385) := by decide +kernel
theorem l_9_44 : xlook 9 44 = some (2, 3, 386) := by decide +kernel
theorem l_9_48 : xlook 9 48 = some (0, 578, 389) := by decide +kernel
theorem l_9_72 : xlook 9 72 = some (0, 579, 390) := by decide +kernel
theorem l_9_84 : xlook 9 84 = some (0, 580, 391) := by decide +kernel
theorem l_9_96 : xlook 9 96 = some (0, 576, 387) := by decide +kernel
theorem l_9_112 : xlook 9 112 = some (0, 577, 388) := by decide +kernel
theorem l_9_128 : xlook 9 128 = some (0, 581, 392) := by decide +kernel
theorem l_9_140 : xlook 9 140 = some (1, 29, 1220) := by decide +kernel
theorem l_9_156 : xlook 9 156 = some (1, 275, 1221) := by decide +kernel
theorem l_9_180 : xlook 9 180 = some (0, 585, 396) := by decide +kernel
theorem l_9_196 : xlook 9 196 = some (0, 582, 393) := by decide +kernel
theorem l_9_208 : xlook 9 208 = some (0, 583, 394) := by decide +kernel
theorem l_9_220 : xlook 9 220 = some (0, 584, 395) := by decide +kernel
theorem l_9_232 : xlook 9 232 = some (1, 40, 1224) := by decide +kernel
theorem l_9_248 : xlook 9 248 = some (1, 56, 1225) := by decide +kernel
theorem l_9_264 : xlook 9 264 = some (1, 82, 1226) := by decide +kernel
theorem l_9_276 : xlook 9 276 = some (1, 87, 1254) := by decide +kernel
theorem l_9_292 : xlook 9 292 = some (1, 66, 1263) := by decide +kernel
theorem l_9_308 : xlook 9 308 = some (1, 272, 1264) := by decide +kernel
theorem l_9_320 : xlook 9 320 = some (1, 83, 1230) := by decide +kernel
theorem l_9_344 : xlook 9 344 = some (0, 387, 327) := by decide +kernel
theorem l_9_356 : xlook 9 356 = some (1, 42, 1252) := by decide +kernel
theorem l_9_372 : xlook 9 372 = some (0, 384, 321) := by decide +kernel
theorem l_9_384 : xlook 9 384 = some (1, 72, 1253) := by decide +kernel
theorem l_9_408 : xlook 9 408 = some (0, 448, 353) := by decide +kernel
theorem l_9_420 : xlook 9 420 = some (1, 62, 1258) := by decide +kernel
theorem l_9_432 : xlook 9 432 = some (1, 88, 1259) := by decide +kernel
theorem l_9_448 : xlook 9 448 = some (1, 43, 1269) := by decide +kernel
theorem l_9_460 : xlook 9 460 = some (0, 257, 237) := by decide +kernel
theorem l_9_480 : xlook 9 480 = some (0, 258, 245) := by decide +kernel
theorem l_9_484 : xlook 9 484 = some (0, 259, 251) := by decide +kernel
theorem l_9_500 : xlook 9 500 = some (1, 33, 1270) := by decide +kernel
theorem l_9_516 : xlook 9 516 = some (1, 90, 1271) := by decide +kernel
theorem l_9_532 : xlook 9 532 = some (1, 93, 1286) := by decide +kernel
theorem l_9_544 : xlook 9 544 = some (1, 51, 1275) := by decide +kernel
theorem l_9_556 : xlook 9 556 = some (1, 91, 1276) := by decide +kernel
theorem l_9_568 : xlook 9 568 = some (0, 388, 330) := by decide +kernel
theorem l_9_580 : xlook 9 580 = some (1, 44, 1284) := by decide +kernel
theorem l_9_592 : xlook 9 592 = some (5, 4, 1285) := by decide +kernel
theorem l_9_596 : xlook 9 596 = some (1, 92, 1280) := by decide +kernel
theorem l_10_12 : xlook 10 12 = some (7, 0, 445) := by decide +kernel
theorem l_10_36 : xlook 10 36 = some (3, 3, 446) := by decide +kernel
theorem l_10_44 : xlook 10 44 = some (2, 3, 447) := by decide +kernel
theorem l_10_48 : xlook 10 48 = some (0, 642, 450) := by decide +kernel
theorem l_10_72 : xlook 10 72 = some (0, 643, 451) := by decide +kernel
theorem l_10_84 : xlook 10 84 = some (0, 640, 448) := by decide +kernel
theorem l_10_100 : xlook 10 100 = some (0, 641, 449) := by decide +kernel
theorem l_10_116 : xlook 10 116 = some (0, 644, 452) := by decide +kernel
theorem l_10_132 : xlook 10 132 = some (0, 646, 455) := by decide +kernel
theorem l_10_148 : xlook 10 148 = some (13, 1, 1556) := by decide +kernel
theorem l_10_156 : xlook 10 156 = some (1, 144, 1557) := by decide +kernel
theorem l_10_172 : xlook 10 172 = some (0, 645, 453) := by decide +kernel
theorem l_10_184 : xlook 10 184 = some (1, 145, 1585) := by decide +kernel
theorem l_10_200 : xlook 10 200 = some (13, 3, 1588) := by decide +kernel
theorem l_10_208 : xlook 10 208 = some (1, 146, 1589) := by decide +kernel
theorem l_10_224 : xlook 10 224 = some (1, 148, 1598) := by decide +kernel
theorem l_10_240 : xlook 10 240 = some (0, 193, 165) := by decide +kernel
theorem l_10_252 : xlook 10 252 = some (1, 282, 1560) := by decide +kernel
theorem l_10_276 : xlook 10 276 = some (1, 284, 1561) := by decide +kernel
theorem l_10_292 : xlook 10 292 = some (0, 647, 457) := by decide +kernel
theorem l_10_304 : xlook 10 304 = some (0, 648, 458) := by decide +kernel
theorem l_10_316 : xlook 10 316 = some (1, 147, 1593) := by decide +kernel
theorem l_10_332 : xlook 10 332 = some (5, 9, 1596) := by decide +kernel
theorem l_10_336 : xlook 10 336 = some (1, 87, 1597) := by decide +kernel
theorem l_10_352 : xlook 10 352 = some (5, 10, 1602) := by decide +kernel
theorem l_10_356 : xlook 10 356 = some (1, 272, 1603) := by decide +kernel
theorem l_10_380 : xlook 10 380 = some (15, 0, 1608) := by decide +kernel
theorem l_10_396 : xlook 10 396 = some (6, 11, 1610) := by decide +kernel
theorem l_10_404 : xlook 10 404 = some (6, 12, 1611) := by decide +kernel
theorem l_10_412 : xlook 10 412 = some (1, 24, 1612) := by decide +kernel
theorem l_10_436 : xlook 10 436 = some (6, 13, 1613) := by decide +kernel
theorem l_10_444 : xlook 10 444 = some (1, 278, 1614) := by decide +kernel
theorem l_10_468 : xlook 10 468 = some (1, 25, 1615) := by decide +kernel
theorem l_10_484 : xlook 10 484 = some (1, 274, 1616) := by decide +kernel
theorem l_10_496 : xlook 10 496 = some (5, 4, 1617) := by decide +kernel
theorem l_10_500 : xlook 10 500 = some (1, 83, 1618) := by decide +kernel
theorem l_10_524 : xlook 10 524 = some (0, 256, 232) := by decide +kernel
theorem l_10_528 : xlook 10 528 = some (0, 258, 247) := by decide +kernel
theorem l_10_540 : xlook 10 540 = some (0, 259, 254) := by decide +kernel
theorem l_10_552 : xlook 10 552 = some (0, 257, 240) := by decide +kernel
theorem l_10_564 : xlook 10 564 = some (0, 384, 322) := by decide +kernel
theorem l_10_576 : xlook 10 576 = some (1, 69, 1619) := by decide +kernel
theorem l_10_592 : xlook 10 592 = some (1, 29, 1620) := by decide +kernel
theorem l_10_604 : xlook 10 604 = some (1, 273, 1621) := by decide +kernel
theorem l_10_616 : xlook 10 616 = some (1, 42, 1622) := by decide +kernel
theorem l_10_632 : xlook 10 632 = some (1, 72, 1623) := by decide +kernel
theorem l_10_652 : xlook 10 652 = some (0, 448, 356) := by decide +kernel
theorem l_10_664 : xlook 10 664 = some (1, 56, 1624) := by decide +kernel
theorem l_10_680 : xlook 10 680 = some (0, 449, 360) := by decide +kernel
theorem l_11_12 : xlook 11 12 = some (7, 0, 483) := by decide +kernel
theorem l_11_44 : xlook 11 44 = some (0, 706, 490) := by decide +kernel
theorem l_11_60 : xlook 11 60 = some (0, 707, 492) := by decide +kernel
theorem l_11_76 : xlook 11 76 = some (3, 3, 484) := by decide +kernel
theorem l_11_84 : xlook 11 84 = some (2, 3, 485) := by decide +kernel
theorem l_11_88 : xlook 11 88 = some (0, 708, 494) := by decide +kernel
theorem l_11_104 : xlook 11 104 = some (0, 709, 495) := by decide +kernel
theorem l_11_116 : xlook 11 116 = some (0, 710, 496) := by decide +kernel
theorem l_11_128 : xlook 11 128 = some (0, 711, 497) := by decide +kernel
theorem l_11_140 : xlook 11 140 = some (0, 712, 498) := by decide +kernel
theorem l_11_152 : xlook 11 152 = some (0, 704, 488) := by decide +kernel
theorem l_11_168 : xlook 11 168 = some (0, 705, 489) := by decide +kernel
theorem l_11_184 : xlook 11 184 = some (3, 2, 486) := by decide +kernel
theorem l_11_192 : xlook 11 192 = some (2, 2, 487) := by decide +kernel
theorem l_11_196 : xlook 11 196 = some (0, 713, 499) := by decide +kernel
theorem l_11_212 : xlook 11 212 = some (0, 714, 500) := by decide +kernel
theorem l_11_224 : xlook 11 224 = some (1, 278, 1636) := by decide +kernel
theorem l_11_248 : xlook 11 248 = some (0, 715, 501) := by decide +kernel
theorem l_11_260 : xlook 11 260 = some (1, 25, 1637) := by decide +kernel
theorem l_11_276 : xlook 11 276 = some (0, 131, 197) := by decide +kernel
theorem l_11_288 : xlook 11 288 = some (1, 275, 1638) := by decide +kernel
theorem l_11_312 : xlook 11 312 = some (0, 716, 502) := by decide +kernel
theorem l_11_324 : xlook 11 324 = some (15, 0, 1639) := by decide +kernel
theorem l_11_340 : xlook 11 340 = some (1, 153, 1640) := by decide +kernel
theorem l_11_356 : xlook 11 356 = some (1, 274, 1644) := by decide +kernel
theorem l_11_368 : xlook 11 368 = some (5, 4, 1645) := by decide +kernel
theorem l_11_372 : xlook 11 372 = some (1, 83, 1646) := by decide +kernel
theorem l_11_396 : xlook 11 396 = some (0, 132, 206) := by decide +kernel
theorem l_11_408 : xlook 11 408 = some (0, 384, 320) := by decide +kernel
theorem l_11_420 : xlook 11 420 = some (1, 69, 1647) := by decide +kernel
theorem l_11_436 : xlook 11 436 = some (1, 29, 1648) := by decide +kernel
theorem l_11_452 : xlook 11 452 = some (0, 128, 181) := by decide +kernel
theorem l_11_464 : xlook 11 464 = some (1, 92, 1649) := by decide +kernel
theorem l_11_480 : xlook 11 480 = some (1, 56, 1663) := by decide +kernel
theorem l_11_496 : xlook 11 496 = some (1, 273, 1654) := by decide +kernel
theorem l_11_508 : xlook 11 508 = some (1, 42, 1664) := by decide +kernel
theorem l_11_524 : xlook 11 524 = some (1, 72, 1665) := by decide +kernel
theorem l_11_544 : xlook 11 544 = some (0, 449, 359) := by decide +kernel
theorem l_11_556 : xlook 11 556 = some (0, 193, 168) := by decide +kernel
theorem l_11_568 : xlook 11 568 = some (1, 66, 1670) := by decide +kernel
theorem l_11_580 : xlook 11 580 = some (0, 130, 193) := by decide +kernel
theorem l_11_596 : xlook 11 596 = some (0, 448, 355) := by decide +kernel
theorem l_11_608 : xlook 11 608 = some (1, 34, 1671) := by decide +kernel
theorem l_11_620 : xlook 11 620 = some (1, 36, 1672) := by decide +kernel
theorem l_11_644 : xlook 11 644 = some (1, 155, 1655) := by decide +kernel
theorem l_11_660 : xlook 11 660 = some (1, 158, 1674) := by decide +kernel
theorem l_11_676 : xlook 11 676 = some (1, 156, 1659) := by decide +kernel
theorem l_11_692 : xlook 11 692 = some (1, 157, 1666) := by decide +kernel
theorem l_11_704 : xlook 11 704 = some (1, 67, 1673) := by decide +kernel
theorem l_11_716 : xlook 11 716 = some (1, 44, 1683) := by decide +kernel
theorem l_11_728 : xlook 11 728 = some (1, 272, 1684) := by decide +kernel
theorem l_11_740 : xlook 11 740 = some (5, 9, 1685) := by decide +kernel
theorem l_11_744 : xlook 11 744 = some (1, 88, 1686) := by decide +kernel
theorem l_11_756 : xlook 11 756 = some (1, 160, 1687) := by decide +kernel
theorem l_12_12 : xlook 12 12 = some (7, 0, 1702) := by decide +kernel
theorem l_12_36 : xlook 12 36 = some (3, 13, 1703) := by decide +kernel
theorem l_12_37 : xlook 12 37 = some (4, 5, 1703) := by decide +kernel
theorem l_12_44 : xlook 12 44 = some (1, 164, 1705) := by decide +kernel
theorem l_12_56 : xlook 12 56 = some (0, 768, 1719) := by decide +kernel
theorem l_12_72 : xlook 12 72 = some (0, 769, 1720) := by decide +kernel
theorem l_12_84 : xlook 12 84 = some (0, 770, 1721) := by decide +kernel
theorem l_12_96 : xlook 12 96 = some (0, 771, 1722) := by decide +kernel
theorem l_12_108 : xlook 12 108 = some (0, 772, 1723) := by decide +kernel
theorem l_12_120 : xlook 12 120 = some (0, 773, 1724) := by decide +kernel
theorem l_12_132 : xlook 12 132 = some (0, 774, 1725) := by decide +kernel
theorem l_12_144 : xlook 12 144 = some (0, 775, 1726) := by decide +kernel
theorem l_12_156 : xlook 12 156 = some (0, 776, 1727) := by decide +kernel
theorem l_12_168 : xlook 12 168 = some (0, 777, 1728) := by decide +kernel
theorem l_12_180 : xlook 12 180 = some (0, 778, 1729) := by decide +kernel
theorem l_12_192 : xlook 12 192 = some (0, 779, 1730) := by decide +kernel
theorem l_12_204 : xlook 12 204 = some (0, 780, 1731) := by decide +kernel
theorem l_12_220 : xlook 12 220 = some (0, 781, 1732) := by decide +kernel
theorem l_12_232 : xlook 12 232 = some (0, 782, 1733) := by decide +kernel
theorem l_12_244 : xlook 12 244 = some (0, 783, 1734) := by decide +kernel
theorem l_12_260 : xlook 12 260 = some (0, 784, 1735) := by decide +kernel
theorem l_12_276 : xlook 12 276 = some (0, 785, 1736) := by decide +kernel
theorem l_12_292 : xlook 12 292 = some (0, 786, 1737) := by decide +kernel
theorem l_12_304 : xlook 12 304 = some (0, 790, 1741) := by decide +kernel
theorem l_12_320 : xlook 12 320 = some (0, 791, 1742) := by decide +kernel
theorem l_12_332 : xlook 12 332 = some (8, 14, 1825) := by decide +kernel
theorem l_12_340 : xlook 12 340 = some (9, 14, 1839) := by decide +kernel
theorem l_12_344 : xlook 12 344 = some (1, 169, 1833) := by decide +kernel
theorem l_12_360 : xlook 12 360 = some (1, 170, 1836) := by decide +kernel
theorem l_12_376 : xlook 12 376 = some (0, 787, 1738) := by decide +kernel
theorem l_12_388 : xlook 12 388 = some (1, 171, 1840) := by decide +kernel
theorem l_12_404 : xlook 12 404 = some (1, 181, 1882) := by decide +kernel
theorem l_12_420 : xlook 12 420 = some (1, 179, 1873) := by decide +kernel
theorem l_12_436 : xlook 12 436 = some (1, 182, 1886) := by decide +kernel
theorem l_12_448 : xlook 12 448 = some (1, 186, 1902) := by decide +kernel
theorem l_12_460 : xlook 12 460 = some (1, 188, 1910) := by decide +kernel
theorem l_12_472 : xlook 12 472 = some (1, 183, 1891) := by decide +kernel
theorem l_12_488 : xlook 12 488 = some (1, 184, 1895) := by decide +kernel
theorem l_12_500 : xlook 12 500 = some (0, 789, 1740) := by decide +kernel
theorem l_12_516 : xlook 12 516 = some (0, 788, 1739) := by decide +kernel
theorem l_12_528 : xlook 12 528 = some (1, 185, 1899) := by decide +kernel
theorem l_12_544 : xlook 12 544 = some (1, 189, 1914) := by decide +kernel
theorem l_12_556 : xlook 12 556 = some (0, 833, 1712) := by decide +kernel
theorem l_12_568 : xlook 12 568 = some (1, 190, 1918) := by decide +kernel
theorem l_12_580 : xlook 12 580 = some (1, 191, 1923) := by decide +kernel
theorem l_12_592 : xlook 12 592 = some (1, 192, 1927) := by decide +kernel
theorem l_12_608 : xlook 12 608 = some (1, 168, 1830) := by decide +kernel
theorem l_12_620 : xlook 12 620 = some (5, 0, 1868) := by decide +kernel
theorem l_12_624 : xlook 12 624 = some (5, 1, 1869) := by decide +kernel
theorem l_12_628 : xlook 12 628 = some (1, 178, 1870) := by decide +kernel
theorem l_12_640 : xlook 12 640 = some (1, 180, 1878) := by decide +kernel
theorem l_12_656 : xlook 12 656 = some (1, 196, 1943) := by decide +kernel
theorem l_12_672 : xlook 12 672 = some (1, 195, 1939) := by decide +kernel
theorem l_12_688 : xlook 12 688 = some (6, 5, 2172) := by decide +kernel
theorem l_12_696 : xlook 12 696 = some (6, 6, 2173) := by decide +kernel
theorem l_12_704 : xlook 12 704 = some (0, 794, 1745) := by decide +kernel
theorem l_12_716 : xlook 12 716 = some (0, 795, 1746) := by decide +kernel
theorem l_12_728 : xlook 12 728 = some (0, 796, 1747) := by decide +kernel
theorem l_12_740 : xlook 12 740 = some (0, 797, 1748) := by decide +kernel
theorem l_12_752 : xlook 12 752 = some (1, 203, 1972) := by decide +kernel
theorem l_12_760 : xlook 12 760 = some (1, 211, 2014) := by decide +kernel
theorem l_12_776 : xlook 12 776 = some (1, 213, 2022) := by decide +kernel
theorem l_12_788 : xlook 12 788 = some (1, 272, 1959) := by decide +kernel
theorem l_12_812 : xlook 12 812 = some (1, 200, 1960) := by decide +kernel
theorem l_12_824 : xlook 12 824 = some (1, 202, 1968) := by decide +kernel
theorem l_12_840 : xlook 12 840 = some (1, 214, 2026) := by decide +kernel
theorem l_12_852 : xlook 12 852 = some (1, 215, 2030) := by decide +kernel
theorem l_12_864 : xlook 12 864 = some (1, 201, 1964) := by decide +kernel
theorem l_12_876 : xlook 12 876 = some (0, 832, 1710) := by decide +kernel
theorem l_12_888 : xlook 12 888 = some (5, 15, 1998) := by decide +kernel
theorem l_12_892 : xlook 12 892 = some (6, 16, 1999) := by decide +kernel
theorem l_12_900 : xlook 12 900 = some (1, 208, 2000) := by decide +kernel
theorem l_12_916 : xlook 12 916 = some (12, 187, 2005) := by decide +kernel
theorem l_12_928 : xlook 12 928 = some (5, 14, 2004) := by decide +kernel
theorem l_12_932 : xlook 12 932 = some (1, 273, 1981) := by decide +kernel
theorem l_12_944 : xlook 12 944 = some (1, 207, 1994) := by decide +kernel
theorem l_12_960 : xlook 12 960 = some (1, 218, 2042) := by decide +kernel
theorem l_12_976 : xlook 12 976 = some (1, 206, 1989) := by decide +kernel
theorem l_12_992 : xlook 12 992 = some (1, 209, 2006) := by decide +kernel
theorem l_12_1004 : xlook 12 1004 = some (1, 210, 2010) := by decide +kernel
theorem l_12_1016 : xlook 12 1016 = some (1, 277, 1993) := by decide +kernel
theorem l_12_1036 : xlook 12 1036 = some (1, 276, 1982) := by decide +kernel
theorem l_12_1048 : xlook 12 1048 = some (1, 205, 1985) := by decide +kernel
theorem l_12_1060 : xlook 12 1060 = some (1, 204, 1977) := by decide +kernel
theorem l_12_1076 : xlook 12 1076 = some (1, 199, 1955) := by decide +kernel
theorem l_12_1092 : xlook 12 1092 = some (1, 212, 2018) := by decide +kernel
theorem l_12_1100 : xlook 12 1100 = some (1, 216, 2034) := by decide +kernel
theorem l_12_1112 : xlook 12 1112 = some (1, 217, 2038) := by decide +kernel
theorem l_12_1120 : xlook 12 1120 = some (1, 219, 2046) := by decide +kernel
theorem l_12_1132 : xlook 12 1132 = some (1, 274, 2074) := by decide +kernel
theorem l_12_1144 : xlook 12 1144 = some (5, 17, 2091) := by decide +kernel
theorem l_12_1148 : xlook 12 1148 = some (1, 234, 2108) := by decide +kernel
theorem l_12_1160 : xlook 12 1160 = some (1, 235, 2112) := by decide +kernel
theorem l_12_1172 : xlook 12 1172 = some (1, 236, 2116) := by decide +kernel
theorem l_12_1184 : xlook 12 1184 = some (8, 15, 2124) := by decide +kernel
theorem l_12_1192 : xlook 12 1192 = some (9, 15, 2133) := by decide +kernel
theorem l_12_1196 : xlook 12 1196 = some (1, 239, 2129) := by decide +kernel
theorem l_12_1208 : xlook 12 1208 = some (1, 240, 2134) := by decide +kernel
theorem l_12_1220 : xlook 12 1220 = some (1, 241, 2138) := by decide +kernel
theorem l_12_1232 : xlook 12 1232 = some (8, 16, 2146) := by decide +kernel
theorem l_12_1240 : xlook 12 1240 = some (9, 16, 2154) := by decide +kernel
theorem l_12_1244 : xlook 12 1244 = some (1, 244, 2151) := by decide +kernel
theorem l_12_1256 : xlook 12 1256 = some (6, 11, 2163) := by decide +kernel
theorem l_12_1272 : xlook 12 1272 = some (6, 3, 2182) := by decide +kernel
theorem l_12_1280 : xlook 12 1280 = some (6, 7, 2183) := by decide +kernel
theorem l_12_1288 : xlook 12 1288 = some (6, 8, 2184) := by decide +kernel
theorem l_12_1296 : xlook 12 1296 = some (0, 792, 1743) := by decide +kernel
theorem l_12_1308 : xlook 12 1308 = some (8, 17, 2197) := by decide +kernel
theorem l_12_1316 : xlook 12 1316 = some (9, 17, 2202) := by decide +kernel
theorem l_12_1320 : xlook 12 1320 = some (1, 259, 2219) := by decide +kernel
theorem l_12_1336 : xlook 12 1336 = some (1, 260, 2223) := by decide +kernel
theorem l_12_1348 : xlook 12 1348 = some (1, 261, 2226) := by decide +kernel
theorem l_12_1360 : xlook 12 1360 = some (5, 10, 2229) := by decide +kernel
theorem l_12_1364 : xlook 12 1364 = some (1, 262, 2230) := by decide +kernel
theorem l_12_1376 : xlook 12 1376 = some (5, 18, 2234) := by decide +kernel
theorem l_12_1380 : xlook 12 1380 = some (14, 1, 2251) := by decide +kernel
theorem l_12_1392 : xlook 12 1392 = some (1, 267, 2253) := by decide +kernel
theorem l_12_1404 : xlook 12 1404 = some (1, 268, 2257) := by decide +kernel
theorem l_12_1420 : xlook 12 1420 = some (0, 798, 1749) := by decide +kernel
theorem l_12_1432 : xlook 12 1432 = some (1, 266, 2247) := by decide +kernel
theorem l_12_1444 : xlook 12 1444 = some (1, 269, 2261) := by decide +kernel
theorem l_12_1460 : xlook 12 1460 = some (1, 265, 2243) := by decide +kernel
theorem l_12_1472 : xlook 12 1472 = some (0, 793, 1744) := by decide +kernel
theorem l_12_1484 : xlook 12 1484 = some (0, 799, 1750) := by decide +kernel
theorem l_12_1496 : xlook 12 1496 = some (1, 167, 1826) := by decide +kernel
theorem l_12_1508 : xlook 12 1508 = some (1, 173, 1848) := by decide +kernel
theorem l_12_1520 : xlook 12 1520 = some (1, 175, 1856) := by decide +kernel
theorem l_12_1536 : xlook 12 1536 = some (1, 177, 1864) := by decide +kernel
theorem l_12_1552 : xlook 12 1552 = some (1, 194, 1935) := by decide +kernel
theorem l_12_1564 : xlook 12 1564 = some (1, 198, 1951) := by decide +kernel
theorem l_12_1580 : xlook 12 1580 = some (1, 221, 2054) := by decide +kernel
theorem l_12_1592 : xlook 12 1592 = some (1, 223, 2062) := by decide +kernel
theorem l_12_1604 : xlook 12 1604 = some (1, 225, 2070) := by decide +kernel
theorem l_12_1616 : xlook 12 1616 = some (1, 227, 2079) := by decide +kernel
theorem l_12_1628 : xlook 12 1628 = some (1, 229, 2087) := by decide +kernel
theorem l_12_1640 : xlook 12 1640 = some (1, 231, 2096) := by decide +kernel
theorem l_12_1652 : xlook 12 1652 = some (1, 233, 2104) := by decide +kernel
theorem l_12_1668 : xlook 12 1668 = some (1, 238, 2125) := by decide +kernel
theorem l_12_1680 : xlook 12 1680 = some (1, 243, 2147) := by decide +kernel
theorem l_12_1692 : xlook 12 1692 = some (1, 246, 2159) := by decide +kernel
theorem l_12_1708 : xlook 12 1708 = some (1, 248, 2168) := by decide +kernel
theorem l_12_1724 : xlook 12 1724 = some (1, 250, 2178) := by decide +kernel
theorem l_12_1736 : xlook 12 1736 = some (1, 252, 2189) := by decide +kernel
theorem l_12_1748 : xlook 12 1748 = some (1, 254, 2198) := by decide +kernel
theorem l_12_1764 : xlook 12 1764 = some (1, 256, 2207) := by decide +kernel
theorem l_12_1776 : xlook 12 1776 = some (1, 258, 2215) := by decide +kernel
theorem l_12_1792 : xlook 12 1792 = some (1, 264, 2239) := by decide +kernel
theorem l_12_1804 : xlook 12 1804 = some (1, 271, 2269) := by decide +kernel
theorem l_13_12 : xlook 13 12 = some (7, 0, 1708) := by decide +kernel
theorem l_13_36 : xlook 13 36 = some (0, 832, 1709) := by decide +kernel
theorem l_13_60 : xlook 13 60 = some (0, 833, 1711) := by decide +kernel
theorem l_13_76 : xlook 13 76 = some (11, 0, 1890) := by decide +kernel
theorem l_13_100 : xlook 13 100 = some (5, 14, 1877) := by decide +kernel
theorem l_13_104 : xlook 13 104 = some (1, 273, 1976) := by decide +kernel
theorem l_13_128 : xlook 13 128 = some (1, 187, 1906) := by decide +kernel
theorem l_13_144 : xlook 13 144 = some (1, 279, 1922) := by decide +kernel
theorem l_14_28 : xlook 14 28 = some (1, 14, 575) := by decide +kernel
theorem l_14_32 : xlook 14 32 = some (3, 0, 115) := by decide +kernel
theorem l_14_60 : xlook 14 60 = some (1, 19, 658) := by decide +kernel
theorem l_14_76 : xlook 14 76 = some (1, 21, 665) := by decide +kernel
theorem l_14_92 : xlook 14 92 = some (1, 53, 1077) := by decide +kernel
theorem l_14_108 : xlook 14 108 = some (1, 58, 1099) := by decide +kernel
theorem l_14_124 : xlook 14 124 = some (1, 95, 1293) := by decide +kernel
theorem l_14_136 : xlook 14 136 = some (1, 98, 1305) := by decide +kernel
theorem l_14_148 : xlook 14 148 = some (1, 101, 1316) := by decide +kernel
theorem l_14_160 : xlook 14 160 = some (1, 106, 1345) := by decide +kernel
theorem l_14_172 : xlook 14 172 = some (1, 112, 1374) := by decide +kernel
theorem l_14_184 : xlook 14 184 = some (1, 115, 1384) := by decide +kernel
theorem l_14_196 : xlook 14 196 = some (1, 117, 1391) := by decide +kernel
theorem l_14_212 : xlook 14 212 = some (1, 122, 1415) := by decide +kernel
theorem l_14_232 : xlook 14 232 = some (1, 124, 1438) := by decide +kernel
theorem l_14_252 : xlook 14 252 = some (1, 126, 1460) := by decide +kernel
theorem l_14_268 : xlook 14 268 = some (1, 128, 1469) := by decide +kernel
theorem l_14_284 : xlook 14 284 = some (1, 130, 1478) := by decide +kernel
theorem l_14_296 : xlook 14 296 = some (1, 133, 1495) := by decide +kernel
theorem l_14_308 : xlook 14 308 = some (1, 137, 1515) := by decide +kernel
theorem l_14_332 : xlook 14 332 = some (1, 140, 1541) := by decide +kernel
theorem l_14_348 : xlook 14 348 = some (1, 142, 1548) := by decide +kernel
theorem l_14_364 : xlook 14 364 = some (1, 151, 1628) := by decide +kernel
theorem l_14_376 : xlook 14 376 = some (1, 162, 1693) := by decide +kernel
theorem l_14_388 : xlook 14 388 = some (1, 0, 117) := by decide +kernel
theorem l_14_392 : xlook 14 392 = some (3, 12, 1697) := by decide +kernel
theorem l_14_400 : xlook 14 400 = some (1, 163, 1699) := by decide +kernel
theorem l_14_404 : xlook 14 404 = some (1, 13, 571) := by decide +kernel
theorem l_14_424 : xlook 14 424 = some (1, 166, 1821) := by decide +kernel
theorem l_14_428 : xlook 14 428 = some (1, 165, 1817) := by decide +kernel
theorem l_14_444 : xlook 14 444 = some (1, 18, 655) := by decide +kernel
theorem l_14_456 : xlook 14 456 = some (1, 172, 1844) := by decide +kernel
theorem l_14_460 : xlook 14 460 = some (1, 12, 567) := by decide +kernel
theorem l_14_476 : xlook 14 476 = some (1, 174, 1852) := by decide +kernel
theorem l_14_480 : xlook 14 480 = some (6, 2, 2273) := by decide +kernel
theorem l_14_488 : xlook 14 488 = some (1, 20, 662) := by decide +kernel
theorem l_14_500 : xlook 14 500 = some (1, 176, 1860) := by decide +kernel
theorem l_14_504 : xlook 14 504 = some (1, 52, 1074) := by decide +kernel
theorem l_14_516 : xlook 14 516 = some (1, 193, 1931) := by decide +kernel
theorem l_14_520 : xlook 14 520 = some (1, 57, 1096) := by decide +kernel
theorem l_14_532 : xlook 14 532 = some (1, 197, 1947) := by decide +kernel
theorem l_14_536 : xlook 14 536 = some (1, 94, 1290) := by decide +kernel
theorem l_14_544 : xlook 14 544 = some (1, 220, 2050) := by decide +kernel
theorem l_14_548 : xlook 14 548 = some (1, 97, 1302) := by decide +kernel
theorem l_14_556 : xlook 14 556 = some (1, 222, 2058) := by decide +kernel
theorem l_14_560 : xlook 14 560 = some (1, 100, 1313) := by decide +kernel
theorem l_14_568 : xlook 14 568 = some (1, 224, 2066) := by decide +kernel
theorem l_14_572 : xlook 14 572 = some (1, 105, 1342) := by decide +kernel
theorem l_14_580 : xlook 14 580 = some (1, 226, 2075) := by decide +kernel
theorem l_14_584 : xlook 14 584 = some (1, 111, 1371) := by decide +kernel
theorem l_14_592 : xlook 14 592 = some (1, 228, 2083) := by decide +kernel
theorem l_14_596 : xlook 14 596 = some (1, 114, 1381) := by decide +kernel
theorem l_14_604 : xlook 14 604 = some (1, 230, 2092) := by decide +kernel
theorem l_14_608 : xlook 14 608 = some (1, 116, 1388) := by decide +kernel
theorem l_14_620 : xlook 14 620 = some (1, 232, 2100) := by decide +kernel
theorem l_14_624 : xlook 14 624 = some (1, 121, 1411) := by decide +kernel
theorem l_14_632 : xlook 14 632 = some (1, 237, 2120) := by decide +kernel
theorem l_14_636 : xlook 14 636 = some (1, 123, 1434) := by decide +kernel
theorem l_14_644 : xlook 14 644 = some (1, 242, 2142) := by decide +kernel
theorem l_14_648 : xlook 14 648 = some (1, 125, 1457) := by decide +kernel
theorem l_14_656 : xlook 14 656 = some (1, 245, 2155) := by decide +kernel
theorem l_14_660 : xlook 14 660 = some (1, 127, 1466) := by decide +kernel
theorem l_14_672 : xlook 14 672 = some (1, 247, 2164) := by decide +kernel
theorem l_14_676 : xlook 14 676 = some (1, 129, 1475) := by decide +kernel
theorem l_14_684 : xlook 14 684 = some (1, 249, 2174) := by decide +kernel
theorem l_14_688 : xlook 14 688 = some (1, 132, 1492) := by decide +kernel
theorem l_14_696 : xlook 14 696 = some (1, 251, 2185) := by decide +kernel
theorem l_14_700 : xlook 14 700 = some (1, 136, 1511) := by decide +kernel
theorem l_14_712 : xlook 14 712 = some (1, 253, 2193) := by decide +kernel
theorem l_14_716 : xlook 14 716 = some (1, 139, 1538) := by decide +kernel
theorem l_14_728 : xlook 14 728 = some (1, 255, 2203) := by decide +kernel
theorem l_14_732 : xlook 14 732 = some (1, 141, 1545) := by decide +kernel
theorem l_14_744 : xlook 14 744 = some (1, 257, 2211) := by decide +kernel
theorem l_14_748 : xlook 14 748 = some (1, 150, 1625) := by decide +kernel
theorem l_14_756 : xlook 14 756 = some (1, 263, 2235) := by decide +kernel
theorem l_14_760 : xlook 14 760 = some (1, 161, 1690) := by decide +kernel
theorem l_14_768 : xlook 14 768 = some (1, 270, 2265) := by decide +kernel
theorem l_16_1056 : xlook 16 1056 = some (5, 19, 705) := by decide +kernel
theorem l_17_52 : xlook 17 52 = some (1, 280, 778) := by decide +kernel
theorem l_17_172 : xlook 17 172 = some (8, 14, 781) := by decide +kernel
theorem l_17_600 : xlook 17 600 = some (11, 0, 772) := by decide +kernel
theorem l_17_1216 : xlook 17 1216 = some (1, 272, 771) := by decide +kernel
theorem l_18_36 : xlook 18 36 = some (0, 1152, 1013) := by decide +kernel
theorem l_18_60 : xlook 18 60 = some (0, 1153, 1014) := by decide +kernel
theorem l_18_152 : xlook 18 152 = some (14, 2, 889) := by decide +kernel
theorem l_18_1340 : xlook 18 1340 = some (1, 283, 885) := by decide +kernel
theorem l_18_1968 : xlook 18 1968 = some (1, 285, 1565) := by decide +kernel
theorem l_18_1980 : xlook 18 1980 = some (1, 286, 1569) := by decide +kernel
theorem cb_m32 : (Int8.ofInt (-32)).toInt32 = (-32) := by decide
theorem cb_m2 : (Int8.ofInt (-2)).toInt32 = (-2) := by decide
theorem cb_6 : (Int8.ofInt 6).toInt32 = 6 := by decide
theorem cb_8 : (Int8.ofInt 8).toInt32 = 8 := by decide
theorem cb_9 : (Int8.ofInt 9).toInt32 = 9 := by decide
theorem cb_10 : (Int8.ofInt 10).toInt32 = 10 := by decide
theorem cb_15 : (Int8.ofInt 15).toInt32 = 15 := by decide
theorem cb_16 : (Int8.ofInt 16).toInt32 = 16 := by decide
theorem cb_17 : (Int8.ofInt 17).toInt32 = 17 := by decide
theorem cb_20 : (Int8.ofInt 20).toInt32 = 20 := by decide
theorem cb_24 : (Int8.ofInt 24).toInt32 = 24 := by decide
theorem cb_30 : (Int8.ofInt 30).toInt32 = 30 := by decide
theorem cb_31 : (Int8.ofInt 31).toInt32 = 31 := by decide
theorem cb_32 : (Int8.ofInt 32).toInt32 = 32 := by decide
theorem cb_36 : (Int8.ofInt 36).toInt32 = 36 := by decide
theorem cb_40 : (Int8.ofInt 40).toInt32 = 40 := by decide
theorem cb_42 : (Int8.ofInt 42).toInt32 = 42 := by decide
theorem cb_43 : (Int8.ofInt 43).toInt32 = 43 := by decide
theorem cb_45 : (Int8.ofInt 45).toInt32 = 45 := by decide
theorem cb_46 : (Int8.ofInt 46).toInt32 = 46 := by decide
theorem cb_48 : (Int8.ofInt 48).toInt32 = 48 := by decide
theorem cb_49 : (Int8.ofInt 49).toInt32 = 49 := by decide
theorem cb_52 : (Int8.ofInt 52).toInt32 = 52 := by decide
theorem cb_53 : (Int8.ofInt 53).toInt32 = 53 := by decide
theorem cb_57 : (Int8.ofInt 57).toInt32 = 57 := by decide
theorem cb_63 : (Int8.ofInt 63).toInt32 = 63 := by decide
theorem cb_64 : (Int8.ofInt 64).toInt32 = 64 := by decide
theorem cb_65 : (Int8.ofInt 65).toInt32 = 65 := by decide
theorem cb_90 : (Int8.ofInt 90).toInt32 = 90 := by decide
theorem cb_97 : (Int8.ofInt 97).toInt32 = 97 := by decide
theorem cb_99 : (Int8.ofInt 99).toInt32 = 99 := by decide
theorem cb_100 : (Int8.ofInt 100).toInt32 = 100 := by decide
theorem cb_102 : (Int8.ofInt 102).toInt32 = 102 := by decide
theorem cb_105 : (Int8.ofInt 105).toInt32 = 105 := by decide
theorem cb_110 : (Int8.ofInt 110).toInt32 = 110 := by decide
theorem cb_122 : (Int8.ofInt 122).toInt32 = 122 := by decide
theorem cb_127 : (Int8.ofInt 127).toInt32 = 127 := by decide
theorem ci_m16 : Int32.ofInt (-16) = (-16) := by decide
theorem ci_m8 : Int32.ofInt (-8) = (-8) := by decide
theorem ci_m4 : Int32.ofInt (-4) = (-4) := by decide
theorem ci_m2 : Int32.ofInt (-2) = (-2) := by decide
theorem ci_m1 : Int32.ofInt (-1) = (-1) := by decide
theorem ci_0 : Int32.ofInt 0 = 0 := by decide
theorem ci_1 : Int32.ofInt 1 = 1 := by decide
theorem ci_2 : Int32.ofInt 2 = 2 := by decide
theorem ci_3 : Int32.ofInt 3 = 3 := by decide
theorem ci_4 : Int32.ofInt 4 = 4 := by decide
theorem ci_5 : Int32.ofInt 5 = 5 := by decide
theorem ci_6 : Int32.ofInt 6 = 6 := by decide
theorem ci_8 : Int32.ofInt 8 = 8 := by decide
theorem ci_16 : Int32.ofInt 16 = 16 := by decide
theorem cl_0 : Int64.ofNat ((0 : Fin 2) : Nat) = 0 := by decide
theorem cl_1 : Int64.ofNat ((1 : Fin 2) : Nat) = 1 := by decide
theorem cs_m30000 : (Int16.ofInt (-30000)).toInt32 = (-30000) := by decide
theorem cs_m16384 : (Int16.ofInt (-16384)).toInt32 = (-16384) := by decide
theorem cs_m1074 : (Int16.ofInt (-1074)).toInt32 = (-1074) := by decide
theorem cs_m1021 : (Int16.ofInt (-1021)).toInt32 = (-1021) := by decide
theorem cs_140 : (Int16.ofInt 140).toInt32 = 140 := by decide
theorem cs_255 : (Int16.ofInt 255).toInt32 = 255 := by decide
theorem cs_256 : (Int16.ofInt 256).toInt32 = 256 := by decide
theorem cs_1022 : (Int16.ofInt 1022).toInt32 = 1022 := by decide
theorem cs_1024 : (Int16.ofInt 1024).toInt32 = 1024 := by decide
theorem cs_1075 : (Int16.ofInt 1075).toInt32 = 1075 := by decide
theorem cs_2000 : (Int16.ofInt 2000).toInt32 = 2000 := by decide
theorem cs_2047 : (Int16.ofInt 2047).toInt32 = 2047 := by decide
theorem cs_4096 : (Int16.ofInt 4096).toInt32 = 4096 := by decide
theorem cs_4112 : (Int16.ofInt 4112).toInt32 = 4112 := by decide
theorem cs_4700 : (Int16.ofInt 4700).toInt32 = 4700 := by decide
theorem cs_5000 : (Int16.ofInt 5000).toInt32 = 5000 := by decide
theorem cs_16384 : (Int16.ofInt 16384).toInt32 = 16384 := by decide
theorem cs_18000 : (Int16.ofInt 18000).toInt32 = 18000 := by decide
theorem cs_30000 : (Int16.ofInt 30000).toInt32 = 30000 := by decide
