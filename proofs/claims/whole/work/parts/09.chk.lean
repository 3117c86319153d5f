def amOkP (j : Nat) : Prop := amOkL (amY j).cls (amY j).name (amB j) (amCs.getD j []) (amPs.getD j []) = true
theorem amOkQ_0 : amOkP 0 := amOks_0
theorem amOkQ_1 : amOkP 1 := amOks_1
theorem amOkQ_2 : amOkP 2 := amOks_2
theorem amOkQ_3 : amOkP 3 := amOks_3
theorem amOkQ_4 : amOkP 4 := amOks_4
theorem amOkQ_5 : amOkP 5 := amOks_5
theorem amOkQ_6 : amOkP 6 := amOks_6
theorem amOkQ_7 : amOkP 7 := amOks_7
theorem amOkQ_8 : amOkP 8 := amOks_8
theorem amOkQ_9 : amOkP 9 := amOks_9
theorem amOkQ_10 : amOkP 10 := amOks_10
theorem amOkQ_11 : amOkP 11 := amOks_11
theorem amOkQ_12 : amOkP 12 := amOks_12
theorem amOkQ_13 : amOkP 13 := amOks_13
theorem amOkQ_14 : amOkP 14 := amOks_14
theorem amOkQ_15 : amOkP 15 := amOks_15
theorem amOkQ_16 : amOkP 16 := amOks_16
theorem amOkQ_17 : amOkP 17 := amOks_17
theorem amOkQ_18 : amOkP 18 := amOks_18
theorem amOkQ_19 : amOkP 19 := amOks_19
theorem amOkQ_20 : amOkP 20 := amOks_20
theorem amOkQ_21 : amOkP 21 := amOks_21
theorem amOkQ_22 : amOkP 22 := amOks_22
theorem amOkQ_23 : amOkP 23 := amOks_23
theorem amOkQ_24 : amOkP 24 := amOks_24
theorem amOkQ_25 : amOkP 25 := amOks_25
theorem amOkQ_26 : amOkP 26 := amOks_26
theorem amOkQ_27 : amOkP 27 := amOks_27
theorem amOkQ_28 : amOkP 28 := amOks_28
theorem amOkQ_29 : amOkP 29 := amOks_29
theorem amOkQ_30 : amOkP 30 := amOks_30
theorem amOkQ_31 : amOkP 31 := amOks_31
theorem amOkQ_32 : amOkP 32 := amOks_32
theorem amOkQ_33 : amOkP 33 := amOks_33
theorem amOkQ_34 : amOkP 34 := amOks_34
theorem amOkQ_35 : amOkP 35 := amOks_35
theorem amOkQ_36 : amOkP 36 := amOks_36
theorem amOkQ_37 : amOkP 37 := amOks_37
theorem amOkQ_38 : amOkP 38 := amOks_38
theorem amOkQ_39 : amOkP 39 := amOks_39
theorem amOkQ_40 : amOkP 40 := amOks_40
theorem amOkQ_41 : amOkP 41 := amOks_41
theorem amOkQ_42 : amOkP 42 := amOks_42
theorem amOkQ_43 : amOkP 43 := amOks_43
theorem amOkQ_44 : amOkP 44 := amOks_44
theorem amOkQ_45 : amOkP 45 := amOks_45
theorem amOkQ_46 : amOkP 46 := amOks_46
theorem amOkQ_47 : amOkP 47 := amOks_47
theorem amOkQ_48 : amOkP 48 := amOks_48
theorem amOkQ_49 : amOkP 49 := amOks_49
theorem amOkQ_50 : amOkP 50 := amOks_50
theorem amOkQ_51 : amOkP 51 := amOks_51
theorem amOkQ_52 : amOkP 52 := amOks_52
theorem amOkQ_53 : amOkP 53 := amOks_53
theorem amOkQ_54 : amOkP 54 := amOks_54
theorem amOkQ_55 : amOkP 55 := amOks_55
theorem amOkQ_56 : amOkP 56 := amOks_56
theorem amOkQ_57 : amOkP 57 := amOks_57
theorem amOkQ_58 : amOkP 58 := amOks_58
theorem amOkQ_59 : amOkP 59 := amOks_59
theorem amOkQ_60 : amOkP 60 := amOks_60
theorem amOkQ_61 : amOkP 61 := amOks_61
theorem amOkQ_62 : amOkP 62 := amOks_62
theorem amOkQ_63 : amOkP 63 := amOks_63
theorem amOkQ_64 : amOkP 64 := amOks_64
theorem amOkQ_65 : amOkP 65 := amOks_65
theorem amOkQ_66 : amOkP 66 := amOks_66
theorem amOkQ_67 : amOkP 67 := amOks_67
theorem amOkQ_68 : amOkP 68 := amOks_68
theorem amOkQ_69 : amOkP 69 := amOks_69
theorem amOkQ_70 : amOkP 70 := amOks_70
theorem amOkQ_71 : amOkP 71 := amOks_71
theorem amOkQ_72 : amOkP 72 := amOks_72
theorem amOkQ_73 : amOkP 73 := amOks_73
theorem amOkQ_74 : amOkP 74 := amOks_74
theorem amOkQ_75 : amOkP 75 := amOks_75
theorem amOkQ_76 : amOkP 76 := amOks_76
theorem amOkQ_77 : amOkP 77 := amOks_77
theorem amOkQ_78 : amOkP 78 := amOks_78
theorem amOkQ_79 : amOkP 79 := amOks_79
theorem amOkQ_80 : amOkP 80 := amOks_80
theorem amOkQ_81 : amOkP 81 := amOks_81
theorem amOkQ_82 : amOkP 82 := amOks_82
theorem amOkQ_83 : amOkP 83 := amOks_83
theorem amOkQ_84 : amOkP 84 := amOks_84
theorem amOkQ_85 : amOkP 85 := amOks_85
theorem amOkQ_86 : amOkP 86 := amOks_86
theorem amOkQ_87 : amOkP 87 := amOks_87
theorem amOkQ_88 : amOkP 88 := amOks_88
theorem amOkQ_89 : amOkP 89 := amOks_89
theorem amOkQ_90 : amOkP 90 := amOks_90
theorem amOkQ_91 : amOkP 91 := amOks_91
theorem amOkQ_92 : amOkP 92 := amOks_92
theorem amOkQ_93 : amOkP 93 := amOks_93
theorem amOkQ_94 : amOkP 94 := amOks_94
theorem amOkQ_95 : amOkP 95 := amOks_95
theorem amOkQ_96 : amOkP 96 := amOks_96
theorem amOkQ_97 : amOkP 97 := amOks_97
theorem amOkQ_98 : amOkP 98 := amOks_98
theorem amOkQ_99 : amOkP 99 := amOks_99
theorem amOkQ_100 : amOkP 100 := amOks_100
theorem amOkQ_101 : amOkP 101 := amOks_101
theorem amOkQ_102 : amOkP 102 := amOks_102
theorem amOkQ_103 : amOkP 103 := amOks_103
theorem amOkQ_104 : amOkP 104 := amOks_104
theorem amOkQ_105 : amOkP 105 := amOks_105
theorem amOkQ_106 : amOkP 106 := amOks_106
theorem amOkQ_107 : amOkP 107 := amOks_107
theorem amOkQ_108 : amOkP 108 := amOks_108
theorem amOkQ_109 : amOkP 109 := amOks_109
theorem amOkQ_110 : amOkP 110 := amOks_110
theorem amOkQ_111 : amOkP 111 := amOks_111
theorem amOkQ_112 : amOkP 112 := amOks_112
theorem amOkQ_113 : amOkP 113 := amOks_113
theorem amOkQ_114 : amOkP 114 := amOks_114
theorem amOkQ_115 : amOkP 115 := amOks_115
theorem amOkQ_116 : amOkP 116 := amOks_116
theorem amOkQ_117 : amOkP 117 := amOks_117
theorem amOkQ_118 : amOkP 118 := amOks_118
theorem amOkQ_119 : amOkP 119 := amOks_119
theorem amOkQ_120 : amOkP 120 := amOks_120
theorem amOkQ_121 : amOkP 121 := amOks_121
theorem amOkQ_122 : amOkP 122 := amOks_122
theorem amOkQ_123 : amOkP 123 := amOks_123
theorem amOkQ_124 : amOkP 124 := amOks_124
theorem amOkQ_125 : amOkP 125 := amOks_125
theorem amOkQ_126 : amOkP 126 := amOks_126
theorem amOkQ_127 : amOkP 127 := amOks_127
theorem amOkQ_128 : amOkP 128 := amOks_128
theorem amOkQ_129 : amOkP 129 := amOks_129
theorem amOkQ_130 : amOkP 130 := amOks_130
theorem amOkQ_131 : amOkP 131 := amOks_131
theorem amOkQ_132 : amOkP 132 := amOks_132
theorem amOkQ_133 : amOkP 133 := amOks_133
theorem amOkQ_134 : amOkP 134 := amOks_134
theorem amOkQ_135 : amOkP 135 := amOks_135
theorem amOkQ_136 : amOkP 136 := amOks_136
theorem amOkQ_137 : amOkP 137 := amOks_137
theorem amOkQ_138 : amOkP 138 := amOks_138
theorem amOkQ_139 : amOkP 139 := amOks_139
theorem amOkQ_140 : amOkP 140 := amOks_140
theorem amOkQ_141 : amOkP 141 := amOks_141
theorem amOkQ_142 : amOkP 142 := amOks_142
theorem amOkQ_143 : amOkP 143 := amOks_143
theorem amOkQ_144 : amOkP 144 := amOks_144
theorem amOkQ_145 : amOkP 145 := amOks_145
theorem amOkQ_146 : amOkP 146 := amOks_146
theorem amOkQ_147 : amOkP 147 := amOks_147
theorem amOkQ_148 : amOkP 148 := amOks_148
theorem amOkQ_149 : amOkP 149 := amOks_149
theorem amOkQ_150 : amOkP 150 := amOks_150
theorem amOkQ_151 : amOkP 151 := amOks_151
theorem amOkQ_152 : amOkP 152 := amOks_152
theorem amOkQ_153 : amOkP 153 := amOks_153
theorem amOkQ_154 : amOkP 154 := amOks_154
theorem amOkQ_155 : amOkP 155 := amOks_155
theorem amOkQ_156 : amOkP 156 := amOks_156
theorem amOkQ_157 : amOkP 157 := amOks_157
theorem amOkQ_158 : amOkP 158 := amOks_158
theorem amOkQ_159 : amOkP 159 := amOks_159
theorem amOkQ_160 : amOkP 160 := amOks_160
theorem amOkQ_161 : amOkP 161 := amOks_161
theorem amOkQ_162 : amOkP 162 := amOks_162
theorem amOkQ_163 : amOkP 163 := amOks_163
theorem amOkQ_164 : amOkP 164 := amOks_164
theorem amOkQ_165 : amOkP 165 := amOks_165
theorem amOkQ_166 : amOkP 166 := amOks_166
theorem amOkQ_167 : amOkP 167 := amOks_167
theorem amOkQ_168 : amOkP 168 := amOks_168
theorem amOkQ_169 : amOkP 169 := amOks_169
theorem amOkQ_170 : amOkP 170 := amOks_170
theorem amOkQ_171 : amOkP 171 := amOks_171
theorem amOkQ_172 : amOkP 172 := amOks_172
theorem amOkQ_173 : amOkP 173 := amOks_173
theorem amOkQ_174 : amOkP 174 := amOks_174
theorem amOkQ_175 : amOkP 175 := amOks_175
theorem amOkQ_176 : amOkP 176 := amOks_176
theorem amOkQ_177 : amOkP 177 := amOks_177
theorem amOkQ_178 : amOkP 178 := amOks_178
theorem amOkQ_179 : amOkP 179 := amOks_179
theorem amOkQ_180 : amOkP 180 := amOks_180
theorem amOkQ_181 : amOkP 181 := amOks_181
theorem amOkQ_182 : amOkP 182 := amOks_182
theorem amOkQ_183 : amOkP 183 := amOks_183
theorem amOkQ_184 : amOkP 184 := amOks_184
theorem amOkQ_185 : amOkP 185 := amOks_185
theorem amOkQ_186 : amOkP 186 := amOks_186
theorem amOkQ_187 : amOkP 187 := amOks_187
theorem amOkQ_188 : amOkP 188 := amOks_188
theorem amOkQ_189 : amOkP 189 := amOks_189
theorem amOkQ_190 : amOkP 190 := amOks_190
theorem amOkQ_191 : amOkP 191 := amOks_191
theorem amOkQ_192 : amOkP 192 := amOks_192
theorem amOkQ_193 : amOkP 193 := amOks_193
theorem amOkQ_194 : amOkP 194 := amOks_194
theorem amOkQ_195 : amOkP 195 := amOks_195
theorem amOkQ_196 : amOkP 196 := amOks_196
theorem amOkQ_197 : amOkP 197 := amOks_197
theorem amOkQ_198 : amOkP 198 := amOks_198
theorem amOkQ_199 : amOkP 199 := amOks_199
theorem amOkQ_200 : amOkP 200 := amOks_200
theorem amOkQ_201 : amOkP 201 := amOks_201
theorem amOkQ_202 : amOkP 202 := amOks_202
theorem amOkQ_203 : amOkP 203 := amOks_203
theorem amOkQ_204 : amOkP 204 := amOks_204
theorem amOkQ_205 : amOkP 205 := amOks_205
theorem amOkQ_206 : amOkP 206 := amOks_206
theorem amOkQ_207 : amOkP 207 := amOks_207
theorem amOkQ_208 : amOkP 208 := amOks_208
theorem amOkQ_209 : amOkP 209 := amOks_209
theorem amOkQ_210 : amOkP 210 := amOks_210
theorem amOkQ_211 : amOkP 211 := amOks_211
theorem amOkQ_212 : amOkP 212 := amOks_212
theorem amOkQ_213 : amOkP 213 := amOks_213
theorem amOkQ_214 : amOkP 214 := amOks_214
theorem amOkQ_215 : amOkP 215 := amOks_215
theorem amOkQ_216 : amOkP 216 := amOks_216
theorem amOkQ_217 : amOkP 217 := amOks_217
theorem amOkQ_218 : amOkP 218 := amOks_218
theorem amOkQ_219 : amOkP 219 := amOks_219
theorem amOkQ_220 : amOkP 220 := amOks_220
theorem amOkQ_221 : amOkP 221 := amOks_221
theorem amOkQ_222 : amOkP 222 := amOks_222
theorem amOkQ_223 : amOkP 223 := amOks_223
theorem amOkQ_224 : amOkP 224 := amOks_224
theorem amOkQ_225 : amOkP 225 := amOks_225
theorem amOkQ_226 : amOkP 226 := amOks_226
theorem amOkQ_227 : amOkP 227 := amOks_227
theorem amOkQ_228 : amOkP 228 := amOks_228
theorem amOkQ_229 : amOkP 229 := amOks_229
theorem amOkQ_230 : amOkP 230 := amOks_230
theorem amOkQ_231 : amOkP 231 := amOks_231
theorem amOkQ_232 : amOkP 232 := amOks_232
theorem amOkQ_233 : amOkP 233 := amOks_233
theorem amOkQ_234 : amOkP 234 := amOks_234
theorem amOkQ_235 : amOkP 235 := amOks_235
theorem amOkQ_236 : amOkP 236 := amOks_236
theorem amOkQ_237 : amOkP 237 := amOks_237
theorem amOkQ_238 : amOkP 238 := amOks_238
theorem amOkQ_239 : amOkP 239 := amOks_239
theorem amOkQ_240 : amOkP 240 := amOks_240
theorem amOkQ_241 : amOkP 241 := amOks_241
theorem amOkQ_242 : amOkP 242 := amOks_242
theorem amOkQ_243 : amOkP 243 := amOks_243
theorem amOkQ_244 : amOkP 244 := amOks_244
theorem amOkQ_245 : amOkP 245 := amOks_245
theorem amOkQ_246 : amOkP 246 := amOks_246
theorem amOkQ_247 : amOkP 247 := amOks_247
theorem amOkQ_248 : amOkP 248 := amOks_248
theorem amOkQ_249 : amOkP 249 := amOks_249
theorem amOkQ_250 : amOkP 250 := amOks_250
theorem amOkAC_30 : ∀ a, a < 30 → amOkP a := lt_s (lt_s (lt_s (lt_s (lt_s (lt_s (lt_s (lt_s (lt_s (lt_s (lt_s (lt_s (lt_s (lt_s (lt_s (lt_s (lt_s (lt_s (lt_s (lt_s (lt_s (lt_s (lt_s (lt_s (lt_s (lt_s (lt_s (lt_s (lt_s (lt_s (lt_0) (amOkQ_0)) (amOkQ_1)) (amOkQ_2)) (amOkQ_3)) (amOkQ_4)) (amOkQ_5)) (amOkQ_6)) (amOkQ_7)) (amOkQ_8)) (amOkQ_9)) (amOkQ_10)) (amOkQ_11)) (amOkQ_12)) (amOkQ_13)) (amOkQ_14)) (amOkQ_15)) (amOkQ_16)) (amOkQ_17)) (amOkQ_18)) (amOkQ_19)) (amOkQ_20)) (amOkQ_21)) (amOkQ_22)) (amOkQ_23)) (amOkQ_24)) (amOkQ_25)) (amOkQ_26)) (amOkQ_27)) (amOkQ_28)) (amOkQ_29)
theorem amOkAC_60 : ∀ a, a < 60 → amOkP a := lt_s (lt_s (lt_s (lt_s (lt_s (lt_s (lt_s (lt_s (lt_s (lt_s (lt_s (lt_s (lt_s (lt_s (lt_s (lt_s (lt_s (lt_s (lt_s (lt_s (lt_s (lt_s (lt_s (lt_s (lt_s (lt_s (lt_s (lt_s (lt_s (lt_s (amOkAC_30) (amOkQ_30)) (amOkQ_31)) (amOkQ_32)) (amOkQ_33)) (amOkQ_34)) (amOkQ_35)) (amOkQ_36)) (amOkQ_37)) (amOkQ_38)) (amOkQ_39)) (amOkQ_40)) (amOkQ_41)) (amOkQ_42)) (amOkQ_43)) (amOkQ_44)) (amOkQ_45)) (amOkQ_46)) (amOkQ_47)) (amOkQ_48)) (amOkQ_49)) (amOkQ_50)) (amOkQ_51)) (amOkQ_52)) (amOkQ_53)) (amOkQ_54)) (amOkQ_55)) (amOkQ_56)) (amOkQ_57)) (amOkQ_58)) (amOkQ_59)
theorem amOkAC_90 : ∀ a, a < 90 → amOkP a := lt_s (lt_s (lt_s (lt_s (lt_s (lt_s (lt_s (lt_s (lt_s (lt_s (lt_s (lt_s (lt_s (lt_s (lt_s (lt_s (lt_s (lt_s (lt_s (lt_s (lt_s (lt_s (lt_s (lt_s (lt_s (lt_s (lt_s (lt_s (lt_s (lt_s (amOkAC_60) (amOkQ_60)) (amOkQ_61)) (amOkQ_62)) (amOkQ_63)) (amOkQ_64)) (amOkQ_65)) (amOkQ_66)) (amOkQ_67)) (amOkQ_68)) (amOkQ_69)) (amOkQ_70)) (amOkQ_71)) (amOkQ_72)) (amOkQ_73)) (amOkQ_74)) (amOkQ_75)) (amOkQ_76)) (amOkQ_77)) (amOkQ_78)) (amOkQ_79)) (amOkQ_80)) (amOkQ_81)) (amOkQ_82)) (amOkQ_83)) (amOkQ_84)) (amOkQ_85)) (amOkQ_86)) (amOkQ_87)) (amOkQ_88)) (amOkQ_89)
theorem amOkAC_120 : ∀ a, a < 120 → amOkP a := lt_s (lt_s (lt_s (lt_s (lt_s (lt_s (lt_s (lt_s (lt_s (lt_s (lt_s (lt_s (lt_s (lt_s (lt_s (lt_s (lt_s (lt_s (lt_s (lt_s (lt_s (lt_s (lt_s (lt_s (lt_s (lt_s (lt_s (lt_s (lt_s (lt_s (amOkAC_90) (amOkQ_90)) (amOkQ_91)) (amOkQ_92)) (amOkQ_93)) (amOkQ_94)) (amOkQ_95)) (amOkQ_96)) (amOkQ_97)) (amOkQ_98)) (amOkQ_99)) (amOkQ_100)) (amOkQ_101)) (amOkQ_102)) (amOkQ_103)) (amOkQ_104)) (amOkQ_105)) (amOkQ_106)) (amOkQ_107)) (amOkQ_108)) (amOkQ_109)) (amOkQ_110)) (amOkQ_111)) (amOkQ_112)) (amOkQ_113)) (amOkQ_114)) (amOkQ_115)) (amOkQ_116)) (amOkQ_117)) (amOkQ_118)) (amOkQ_119)
theorem amOkAC_150 : ∀ a, a < 150 → amOkP a := lt_s (lt_s (lt_s (lt_s (lt_s (lt_s (lt_s (lt_s (lt_s (lt_s (lt_s (lt_s (lt_s (lt_s (lt_s (lt_s (lt_s (lt_s (lt_s (lt_s (lt_s (lt_s (lt_s (lt_s (lt_s (lt_s (lt_s (lt_s (lt_s (lt_s (amOkAC_120) (amOkQ_120)) (amOkQ_121)) (amOkQ_122)) (amOkQ_123)) (amOkQ_124)) (amOkQ_125)) (amOkQ_126)) (amOkQ_127)) (amOkQ_128)) (amOkQ_129)) (amOkQ_130)) (amOkQ_131)) (amOkQ_132)) (amOkQ_133)) (amOkQ_134)) (amOkQ_135)) (amOkQ_136)) (amOkQ_137)) (amOkQ_138)) (amOkQ_139)) (amOkQ_140)) (amOkQ_141)) (amOkQ_142)) (amOkQ_143)) (amOkQ_144)) (amOkQ_145)) (amOkQ_146)) (amOkQ_147)) (amOkQ_148)) (amOkQ_149)
theorem amOkAC_180 : ∀ a, a < 180 → amOkP a := lt_s (lt_s (lt_s (lt_s (lt_s (lt_s (lt_s (lt_s (lt_s (lt_s (lt_s (lt_s (lt_s (lt_s (lt_s (lt_s (lt_s (lt_s (lt_s (lt_s (lt_s (lt_s (lt_s (lt_s (lt_s (lt_s (lt_s (lt_s (lt_s (lt_s (amOkAC_150) (amOkQ_150)) (amOkQ_151)) (amOkQ_152)) (amOkQ_153)) (amOkQ_154)) (amOkQ_155)) (amOkQ_156)) (amOkQ_157)) (amOkQ_158)) (amOkQ_159)) (amOkQ_160)) (amOkQ_161)) (amOkQ_162)) (amOkQ_163)) (amOkQ_164)) (amOkQ_165)) (amOkQ_166)) (amOkQ_167)) (amOkQ_168)) (amOkQ_169)) (amOkQ_170)) (amOkQ_171)) (amOkQ_172)) (amOkQ_173)) (amOkQ_174)) (amOkQ_175)) (amOkQ_176)) (amOkQ_177)) (amOkQ_178)) (amOkQ_179)
theorem amOkAC_210 : ∀ a, a < 210 → amOkP a := lt_s (lt_s (lt_s (lt_s (lt_s (lt_s (lt_s (lt_s (lt_s (lt_s (lt_s (lt_s (lt_s (lt_s (lt_s (lt_s (lt_s (lt_s (lt_s (lt_s (lt_s (lt_s (lt_s (lt_s (lt_s (lt_s (lt_s (lt_s (lt_s (lt_s (amOkAC_180) (amOkQ_180)) (amOkQ_181)) (amOkQ_182)) (amOkQ_183)) (amOkQ_184)) (amOkQ_185)) (amOkQ_186)) (amOkQ_187)) (amOkQ_188)) (amOkQ_189)) (amOkQ_190)) (amOkQ_191)) (amOkQ_192)) (amOkQ_193)) (amOkQ_194)) (amOkQ_195)) (amOkQ_196)) (amOkQ_197)) (amOkQ_198)) (amOkQ_199)) (amOkQ_200)) (amOkQ_201)) (amOkQ_202)) (amOkQ_203)) (amOkQ_204)) (amOkQ_205)) (amOkQ_206)) (amOkQ_207)) (amOkQ_208)) (amOkQ_209)
theorem amOkAC_240 : ∀ a, a < 240 → amOkP a := lt_s (lt_s (lt_s (lt_s (lt_s (lt_s (lt_s (lt_s (lt_s (lt_s (lt_s (lt_s (lt_s (lt_s (lt_s (lt_s (lt_s (lt_s (lt_s (lt_s (lt_s (lt_s (lt_s (lt_s (lt_s (lt_s (lt_s (lt_s (lt_s (lt_s (amOkAC_210) (amOkQ_210)) (amOkQ_211)) (amOkQ_212)) (amOkQ_213)) (amOkQ_214)) (amOkQ_215)) (amOkQ_216)) (amOkQ_217)) (amOkQ_218)) (amOkQ_219)) (amOkQ_220)) (amOkQ_221)) (amOkQ_222)) (amOkQ_223)) (amOkQ_224)) (amOkQ_225)) (amOkQ_226)) (amOkQ_227)) (amOkQ_228)) (amOkQ_229)) (amOkQ_230)) (amOkQ_231)) (amOkQ_232)) (amOkQ_233)) (amOkQ_234)) (amOkQ_235)) (amOkQ_236)) (amOkQ_237)) (amOkQ_238)) (amOkQ_239)
theorem amOkAC_251 : ∀ a, a < 251 → amOkP a := lt_s (lt_s (lt_s (lt_s (lt_s (lt_s (lt_s (lt_s (lt_s (lt_s (lt_s (amOkAC_240) (amOkQ_240)) (amOkQ_241)) (amOkQ_242)) (amOkQ_243)) (amOkQ_244)) (amOkQ_245)) (amOkQ_246)) (amOkQ_247)) (amOkQ_248)) (amOkQ_249)) (amOkQ_250)
theorem amOkA : ∀ a, a < 251 → amOkP a := amOkAC_251
def amN : Nat := 251
def amLnP (e : amEt) : Bool := amLn e.2.1 == 0 || amLn e.2.1 == e.2.2.1
theorem amLen_0 : amC_0.all amLnP = true := by decide +kernel
theorem amLen_1 : amC_1.all amLnP = true := by decide +kernel
theorem amLen_2 : amC_2.all amLnP = true := by decide +kernel
theorem amLen_3 : amC_3.all amLnP = true := by decide +kernel
theorem amLen_4 : amC_4.all amLnP = true := by decide +kernel
theorem amLen_5 : amC_5.all amLnP = true := by decide +kernel
theorem amLen_6 : amC_6.all amLnP = true := by decide +kernel
theorem amLen_7 : amC_7.all amLnP = true := by decide +kernel
theorem amLen_8 : amC_8.all amLnP = true := by decide +kernel
theorem amLen_9 : amC_9.all amLnP = true := by decide +kernel
theorem amLen_10 : amC_10.all amLnP = true := by decide +kernel
theorem amLen_11 : amC_11.all amLnP = true := by decide +kernel
theorem amLen_12 : amC_12.all amLnP = true := by decide +kernel
theorem amLen_13 : amC_13.all amLnP = true := by decide +kernel
theorem amLen_14 : amC_14.all amLnP = true := by decide +kernel
theorem amLen_15 : amC_15.all amLnP = true := by decide +kernel
theorem amLen_16 : amC_16.all amLnP = true := by decide +kernel
theorem amLen_17 : amC_17.all amLnP = true := by decide +kernel
theorem amLen_18 : amC_18.all amLnP = true := by decide +kernel
theorem amLen_19 : amC_19.all amLnP = true := by decide +kernel
theorem amLen_20 : amC_20.all amLnP = true := by decide +kernel
theorem amLen_21 : amC_21.all amLnP = true := by decide +kernel
theorem amLen_22 : amC_22.all amLnP = true := by decide +kernel
theorem amLen_23 : amC_23.all amLnP = true := by decide +kernel
theorem amLen_24 : amC_24.all amLnP = true := by decide +kernel
theorem amLen_25 : amC_25.all amLnP = true := by decide +kernel
theorem amLen_26 : amC_26.all amLnP = true := by decide +kernel
theorem amLen_27 : amC_27.all amLnP = true := by decide +kernel
theorem amLen_28 : amC_28.all amLnP = true := by decide +kernel
theorem amLen_29 : amC_29.all amLnP = true := by decide +kernel
theorem amLen_30 : amC_30.all amLnP = true := by decide +kernel
theorem amLen_31 : amC_31.all amLnP = true := by decide +kernel
theorem amLen_32 : amC_32.all amLnP = true := by decide +kernel
theorem amLen_33 : amC_33.all amLnP = true := by decide +kernel
theorem amLen_34 : amC_34.all amLnP = true := by decide +kernel
theorem amLen_35 : amC_35.all amLnP = true := by decide +kernel
theorem amLen_36 : amC_36.all amLnP = true := by decide +kernel
theorem amLen_37 : amC_37.all amLnP = true := by decide +kernel
theorem amLen_38 : amC_38.all amLnP = true := by decide +kernel
theorem amLen_39 : amC_39.all amLnP = true := by decide +kernel
theorem amLen_40 : amC_40.all amLnP = true := by decide +kernel
theorem amLen_41 : amC_41.all amLnP = true := by decide +kernel
theorem amLen_42 : amC_42.all amLnP = true := by decide +kernel
theorem amLen_43 : amC_43.all amLnP = true := by decide +kernel
theorem amLen_44 : amC_44.all amLnP = true := by decide +kernel
theorem amLen_45 : amC_45.all amLnP = true := by decide +kernel
theorem amLen_46 : amC_46.all amLnP = true := by decide +kernel
theorem amLen_47 : amC_47.all amLnP = true := by decide +kernel
theorem amLen_48 : amC_48.all amLnP = true := by decide +kernel
theorem amLen_49 : amC_49.all amLnP = true := by decide +kernel
theorem amLen_50 : amC_50.all amLnP = true := by decide +kernel
theorem amLen_51 : amC_51.all amLnP = true := by decide +kernel
theorem amLen_52 : amC_52.all amLnP = true := by decide +kernel
theorem amLen_53 : amC_53.all amLnP = true := by decide +kernel
theorem amLen_54 : amC_54.all amLnP = true := by decide +kernel
theorem amLen_55 : amC_55.all amLnP = true := by decide +kernel
theorem amLen_56 : amC_56.all amLnP = true := by decide +kernel
theorem amLen_57 : amC_57.all amLnP = true := by decide +kernel
theorem amLen_58 : amC_58.all amLnP = true := by decide +kernel
theorem amLen_59 : amC_59.all amLnP = true := by decide +kernel
theorem amLen_60 : amC_60.all amLnP = true := by decide +kernel
theorem amLen_61 : amC_61.all amLnP = true := by decide +kernel
theorem amLen_62 : amC_62.all amLnP = true := by decide +kernel
theorem amLen_63 : amC_63.all amLnP = true := by decide +kernel
theorem amLen_64 : amC_64.all amLnP = true := by decide +kernel
theorem amLen_65 : amC_65.all amLnP = true := by decide +kernel
theorem amLen_66 : amC_66.all amLnP = true := by decide +kernel
theorem amLen_67 : amC_67.all amLnP = true := by decide +kernel
theorem amLen_68 : amC_68.all amLnP = true := by decide +kernel
theorem amLen_69 : amC_69.all amLnP = true := by decide +kernel
theorem amLen_70 : amC_70.all amLnP = true := by decide +kernel
theorem amLen_71 : amC_71.all amLnP = true := by decide +kernel
theorem amLen_72 : amC_72.all amLnP = true := by decide +kernel
theorem amLen_73 : amC_73.all amLnP = true := by decide +kernel
theorem amLen_74 : amC_74.all amLnP = true := by decide +kernel
theorem amLen_75 : amC_75.all amLnP = true := by decide +kernel
theorem amLen_76 : amC_76.all amLnP = true := by decide +kernel
theorem amLen_77 : amC_77.all amLnP = true := by decide +kernel
theorem amLen_78 : amC_78.all amLnP = true := by decide +kernel
theorem amLen_79 : amC_79.all amLnP = true := by decide +kernel
theorem amLen_80 : amC_80.all amLnP = true := by decide +kernel
theorem amLen_81 : amC_81.all amLnP = true := by decide +kernel
theorem amLen_82 : amC_82.all amLnP = true := by decide +kernel
theorem amLen_83 : amC_83.all amLnP = true := by decide +kernel
theorem amLen_84 : amC_84.all amLnP = true := by decide +kernel
theorem amLen_85 : amC_85.all amLnP = true := by decide +kernel
theorem amLen_86 : amC_86.all amLnP = true := by decide +kernel
theorem amLen_87 : amC_87.all amLnP = true := by decide +kernel
theorem amLen_88 : amC_88.all amLnP = true := by decide +kernel
theorem amLen_89 : amC_89.all amLnP = true := by decide +kernel
theorem amLen_90 : amC_90.all amLnP = true := by decide +kernel
theorem amLen_91 : amC_91.all amLnP = true := by decide +kernel
theorem amLen_92 : amC_92.all amLnP = true := by decide +kernel
theorem amLen_93 : amC_93.all amLnP = true := by decide +kernel
theorem amLen_94 : amC_94.all amLnP = true := by decide +kernel
theorem amLen_95 : amC_95.all amLnP = true := by decide +kernel
theorem amLen_96 : amC_96.all amLnP = true := by decide +kernel
theorem amLen_97 : amC_97.all amLnP = true := by decide +kernel
theorem amLen_98 : amC_98.all amLnP = true := by decide +kernel
theorem amLen_99 : amC_99.all amLnP = true := by decide +kernel
theorem amLen_100 : amC_100.all amLnP = true := by decide +kernel
theorem amLen_101 : amC_101.all amLnP = true := by decide +kernel
theorem amLen_102 : amC_102.all amLnP = true := by decide +kernel
theorem amLen_103 : amC_103.all amLnP = true := by decide +kernel
theorem amLen_104 : amC_104.all amLnP = true := by decide +kernel
theorem amLen_105 : amC_105.all amLnP = true := by decide +kernel
theorem amLen_106 : amC_106.all amLnP = true := by decide +kernel
theorem amLen_107 : amC_107.all amLnP = true := by decide +kernel
theorem amLen_108 : amC_108.all amLnP = true := by decide +kernel
theorem amLen_109 : amC_109.all amLnP = true := by decide +kernel
theorem amLen_110 : amC_110.all amLnP = true := by decide +kernel
theorem amLen_111 : amC_111.all amLnP = true := by decide +kernel
theorem amLen_112 : amC_112.all amLnP = true := by decide +kernel
theorem amLen_113 : amC_113.all amLnP = true := by decide +kernel
theorem amLen_114 : amC_114.all amLnP = true := by decide +kernel
theorem amLen_115 : amC_115.all amLnP = true := by decide +kernel
theorem amLen_116 : amC_116.all amLnP = true := by decide +kernel
theorem amLen_117 : amC_117.all amLnP = true := by decide +kernel
theorem amLen_118 : amC_118.all amLnP = true := by decide +kernel
theorem amLen_119 : amC_119.all amLnP = true := by decide +kernel
theorem amLen_120 : amC_120.all amLnP = true := by decide +kernel
theorem amLen_121 : amC_121.all amLnP = true := by decide +kernel
theorem amLen_122 : amC_122.all amLnP = true := by decide +kernel
theorem amLen_123 : amC_123.all amLnP = true := by decide +kernel
theorem amLen_124 : amC_124.all amLnP = true := by decide +kernel
theorem amLen_125 : amC_125.all amLnP = true := by decide +kernel
theorem amLen_126 : amC_126.all amLnP = true := by decide +kernel
theorem amLen_127 : amC_127.all amLnP = true := by decide +kernel
theorem amLen_128 : amC_128.all amLnP = true := by decide +kernel
theorem amLen_129 : amC_129.all amLnP = true := by decide +kernel
theorem amLen_130 : amC_130.all amLnP = true := by decide +kernel
theorem amLen_131 : amC_131.all amLnP = true := by decide +kernel
theorem amLen_132 : amC_132.all amLnP = true := by decide +kernel
theorem amLen_133 : amC_133.all amLnP = true := by decide +kernel
theorem amLen_134 : amC_134.all amLnP = true := by decide +kernel
theorem amLen_135 : amC_135.all amLnP = true := by decide +kernel
theorem amLen_136 : amC_136.all amLnP = true := by decide +kernel
theorem amLen_137 : amC_137.all amLnP = true := by decide +kernel
theorem amLen_138 : amC_138.all amLnP = true := by decide +kernel
theorem amLen_139 : amC_139.all amLnP = true := by decide +kernel
theorem amLen_140 : amC_140.all amLnP = true := by decide +kernel
theorem amLen_141 : amC_141.all amLnP = true := by decide +kernel
theorem amLen_142 : amC_142.all amLnP = true := by decide +kernel
theorem amLen_143 : amC_143.all amLnP = true := by decide +kernel
theorem amLen_144 : amC_144.all amLnP = true := by decide +kernel
theorem amLen_145 : amC_145.all amLnP = true := by decide +kernel
theorem amLen_146 : amC_146.all amLnP = true := by decide +kernel
theorem amLen_147 : amC_147.all amLnP = true := by decide +kernel
theorem amLen_148 : amC_148.all amLnP = true := by decide +kernel
theorem amLen_149 : amC_149.all amLnP = true := by decide +kernel
theorem amLen_150 : amC_150.all amLnP = true := by decide +kernel
theorem amLen_151 : amC_151.all amLnP = true := by decide +kernel
theorem amLen_152 : amC_152.all amLnP = true := by decide +kernel
theorem amLen_153 : amC_153.all amLnP = true := by decide +kernel
theorem amLen_154 : amC_154.all amLnP = true := by decide +kernel
theorem amLen_155 : amC_155.all amLnP = true := by decide +kernel
theorem amLen_156 : amC_156.all amLnP = true := by decide +kernel
theorem amLen_157 : amC_157.all amLnP = true := by decide +kernel
theorem amLen_158 : amC_158.all amLnP = true := by decide +kernel
theorem amLen_159 : amC_159.all amLnP = true := by decide +kernel
theorem amLen_160 : amC_160.all amLnP = true := by decide +kernel
theorem amLen_161 : amC_161.all amLnP = true := by decide +kernel
theorem amLen_162 : amC_162.all amLnP = true := by decide +kernel
theorem amLen_163 : amC_163.all amLnP = true := by decide +kernel
theorem amLen_164 : amC_164.all amLnP = true := by decide +kernel
theorem amLen_165 : amC_165.all amLnP = true := by decide +kernel
theorem amLen_166 : amC_166.all amLnP = true := by decide +kernel
theorem amLen_167 : amC_167.all amLnP = true := by decide +kernel
theorem amLen_168 : amC_168.all amLnP = true := by decide +kernel
theorem amLen_169 : amC_169.all amLnP = true := by decide +kernel
theorem amLen_170 : amC_170.all amLnP = true := by decide +kernel
theorem amLen_171 : amC_171.all amLnP = true := by decide +kernel
theorem amLen_172 : amC_172.all amLnP = true := by decide +kernel
theorem amLen_173 : amC_173.all amLnP = true := by decide +kernel
theorem amLen_174 : amC_174.all amLnP = true := by decide +kernel
theorem amLen_175 : amC_175.all amLnP = true := by decide +kernel
theorem amLen_176 : amC_176.all amLnP = true := by decide +kernel
theorem amLen_177 : amC_177.all amLnP = true := by decide +kernel
theorem amLen_178 : amC_178.all amLnP = true := by decide +kernel
theorem amLen_179 : amC_179.all amLnP = true := by decide +kernel
theorem amLen_180 : amC_180.all amLnP = true := by decide +kernel
theorem amLen_181 : amC_181.all amLnP = true := by decide +kernel
theorem amLen_182 : amC_182.all amLnP = true := by decide +kernel
theorem amLen_183 : amC_183.all amLnP = true := by decide +kernel
theorem amLen_184 : amC_184.all amLnP = true := by decide +kernel
theorem amLen_185 : amC_185.all amLnP = true := by decide +kernel
theorem amLen_186 : amC_186.all amLnP = true := by decide +kernel
theorem amLen_187 : amC_187.all amLnP = true := by decide +kernel
theorem amLen_188 : amC_188.all amLnP = true := by decide +kernel
theorem amLen_189 : amC_189.all amLnP = true := by decide +kernel
theorem amLen_190 : amC_190.all amLnP = true := by decide +kernel
theorem amLen_191 : amC_191.all amLnP = true := by decide +kernel
theorem amLen_192 : amC_192.all amLnP = true := by decide +kernel
theorem amLen_193 : amC_193.all amLnP = true := by decide +kernel
theorem amLen_194 : amC_194.all amLnP = true := by decide +kernel
theorem amLen_195 : amC_195.all amLnP = true := by decide +kernel
theorem amLen_196 : amC_196.all amLnP = true := by decide +kernel
theorem amLen_197 : amC_197.all amLnP = true := by decide +kernel
theorem amLen_198 : amC_198.all amLnP = true := by decide +kernel
theorem amLen_199 : amC_199.all amLnP = true := by decide +kernel
theorem amLen_200 : amC_200.all amLnP = true := by decide +kernel
theorem amLen_201 : amC_201.all amLnP = true := by decide +kernel
theorem amLen_202 : amC_202.all amLnP = true := by decide +kernel
theorem amLen_203 : amC_203.all amLnP = true := by decide +kernel
theorem amLen_204 : amC_204.all amLnP = true := by decide +kernel
theorem amLen_205 : amC_205.all amLnP = true := by decide +kernel
theorem amLen_206 : amC_206.all amLnP = true := by decide +kernel
theorem amLen_207 : amC_207.all amLnP = true := by decide +kernel
theorem amLen_208 : amC_208.all amLnP = true := by decide +kernel
theorem amLen_209 : amC_209.all amLnP = true := by decide +kernel
theorem amLen_210 : amC_210.all amLnP = true := by decide +kernel
theorem amLen_211 : amC_211.all amLnP = true := by decide +kernel
theorem amLen_212 : amC_212.all amLnP = true := by decide +kernel
theorem amLen_213 : amC_213.all amLnP = true := by decide +kernel
theorem amLen_214 : amC_214.all amLnP = true := by decide +kernel
theorem amLen_215 : amC_215.all amLnP = true := by decide +kernel
theorem amLen_216 : amC_216.all amLnP = true := by decide +kernel
theorem amLen_217 : amC_217.all amLnP = true := by decide +kernel
theorem amLen_218 : amC_218.all amLnP = true := by decide +kernel
theorem amLen_219 : amC_219.all amLnP = true := by decide +kernel
theorem amLen_220 : amC_220.all amLnP = true := by decide +kernel
theorem amLen_221 : amC_221.all amLnP = true := by decide +kernel
theorem amLen_222 : amC_222.all amLnP = true := by decide +kernel
theorem amLen_223 : amC_223.all amLnP = true := by decide +kernel
theorem amLen_224 : amC_224.all amLnP = true := by decide +kernel
theorem amLen_225 : amC_225.all amLnP = true := by decide +kernel
theorem amLen_226 : amC_226.all amLnP = true := by decide +kernel
theorem amLen_227 : amC_227.all amLnP = true := by decide +kernel
theorem amLen_228 : amC_228.all amLnP = true := by decide +kernel
theorem amLen_229 : amC_229.all amLnP = true := by decide +kernel
theorem amLen_230 : amC_230.all amLnP = true := by decide +kernel
theorem amLen_231 : amC_231.all amLnP = true := by decide +kernel
theorem amLen_232 : amC_232.all amLnP = true := by decide +kernel
theorem amLen_233 : amC_233.all amLnP = true := by decide +kernel
theorem amLen_234 : amC_234.all amLnP = true := by decide +kernel
theorem amLen_235 : amC_235.all amLnP = true := by decide +kernel
theorem amLen_236 : amC_236.all amLnP = true := by decide +kernel
theorem amLen_237 : amC_237.all amLnP = true := by decide +kernel
theorem amLen_238 : amC_238.all amLnP = true := by decide +kernel
theorem amLen_239 : amC_239.all amLnP = true := by decide +kernel
theorem amLen_240 : amC_240.all amLnP = true := by decide +kernel
theorem amLen_241 : amC_241.all amLnP = true := by decide +kernel
theorem amLen_242 : amC_242.all amLnP = true := by decide +kernel
theorem amLen_243 : amC_243.all amLnP = true := by decide +kernel
theorem amLen_244 : amC_244.all amLnP = true := by decide +kernel
theorem amLen_245 : amC_245.all amLnP = true := by decide +kernel
theorem amLen_246 : amC_246.all amLnP = true := by decide +kernel
theorem amLen_247 : amC_247.all amLnP = true := by decide +kernel
theorem amLen_248 : amC_248.all amLnP = true := by decide +kernel
theorem amLen_249 : amC_249.all amLnP = true := by decide +kernel
theorem amLen_250 : amC_250.all amLnP = true := by decide +kernel
def amLenQ (j : Nat) : Prop := (amCs.getD j []).all amLnP = true
theorem amLenR_0 : amLenQ 0 := amLen_0
theorem amLenR_1 : amLenQ 1 := amLen_1
theorem amLenR_2 : amLenQ 2 := amLen_2
theorem amLenR_3 : amLenQ 3 := amLen_3
theorem amLenR_4 : amLenQ 4 := amLen_4
theorem amLenR_5 : amLenQ 5 := amLen_5
theorem amLenR_6 : amLenQ 6 := amLen_6
theorem amLenR_7 : amLenQ 7 := amLen_7
theorem amLenR_8 : amLenQ 8 := amLen_8
theorem amLenR_9 : amLenQ 9 := amLen_9
theorem amLenR_10 : amLenQ 10 := amLen_10
theorem amLenR_11 : amLenQ 11 := amLen_11
theorem amLenR_12 : amLenQ 12 := amLen_12
theorem amLenR_13 : amLenQ 13 := amLen_13
theorem amLenR_14 : amLenQ 14 := amLen_14
theorem amLenR_15 : amLenQ 15 := amLen_15
theorem amLenR_16 : amLenQ 16 := amLen_16
theorem amLenR_17 : amLenQ 17 := amLen_17
theorem amLenR_18 : amLenQ 18 := amLen_18
theorem amLenR_19 : amLenQ 19 := amLen_19
theorem amLenR_20 : amLenQ 20 := amLen_20
theorem amLenR_21 : amLenQ 21 := amLen_21
theorem amLenR_22 : amLenQ 22 := amLen_22
theorem amLenR_23 : amLenQ 23 := amLen_23
theorem amLenR_24 : amLenQ 24 := amLen_24
theorem amLenR_25 : amLenQ 25 := amLen_25
theorem amLenR_26 : amLenQ 26 := amLen_26
theorem amLenR_27 : amLenQ 27 := amLen_27
theorem amLenR_28 : amLenQ 28 := amLen_28
theorem amLenR_29 : amLenQ 29 := amLen_29
theorem amLenR_30 : amLenQ 30 := amLen_30
theorem amLenR_31 : amLenQ 31 := amLen_31
theorem amLenR_32 : amLenQ 32 := amLen_32
theorem amLenR_33 : amLenQ 33 := amLen_33
theorem amLenR_34 : amLenQ 34 := amLen_34
theorem amLenR_35 : amLenQ 35 := amLen_35
theorem amLenR_36 : amLenQ 36 := amLen_36
theorem amLenR_37 : amLenQ 37 := amLen_37
theorem amLenR_38 : amLenQ 38 := amLen_38
theorem amLenR_39 : amLenQ 39 := amLen_39
theorem amLenR_40 : amLenQ 40 := amLen_40
theorem amLenR_41 : amLenQ 41 := amLen_41
theorem amLenR_42 : amLenQ 42 := amLen_42
theorem amLenR_43 : amLenQ 43 := amLen_43
theorem amLenR_44 : amLenQ 44 := amLen_44
theorem amLenR_45 : amLenQ 45 := amLen_45
theorem amLenR_46 : amLenQ 46 := amLen_46
theorem amLenR_47 : amLenQ 47 := amLen_47
theorem amLenR_48 : amLenQ 48 := amLen_48
theorem amLenR_49 : amLenQ 49 := amLen_49
theorem amLenR_50 : amLenQ 50 := amLen_50
theorem amLenR_51 : amLenQ 51 := amLen_51
theorem amLenR_52 : amLenQ 52 := amLen_52
theorem amLenR_53 : amLenQ 53 := amLen_53
theorem amLenR_54 : amLenQ 54 := amLen_54
theorem amLenR_55 : amLenQ 55 := amLen_55
theorem amLenR_56 : amLenQ 56 := amLen_56
theorem amLenR_57 : amLenQ 57 := amLen_57
theorem amLenR_58 : amLenQ 58 := amLen_58
theorem amLenR_59 : amLenQ 59 := amLen_59
theorem amLenR_60 : amLenQ 60 := amLen_60
theorem amLenR_61 : amLenQ 61 := amLen_61
theorem amLenR_62 : amLenQ 62 := amLen_62
theorem amLenR_63 : amLenQ 63 := amLen_63
theorem amLenR_64 : amLenQ 64 := amLen_64
theorem amLenR_65 : amLenQ 65 := amLen_65
theorem amLenR_66 : amLenQ 66 := amLen_66
theorem amLenR_67 : amLenQ 67 := amLen_67
theorem amLenR_68 : amLenQ 68 := amLen_68
theorem amLenR_69 : amLenQ 69 := amLen_69
theorem amLenR_70 : amLenQ 70 := amLen_70
theorem amLenR_71 : amLenQ 71 := amLen_71
theorem amLenR_72 : amLenQ 72 := amLen_72
theorem amLenR_73 : amLenQ 73 := amLen_73
theorem amLenR_74 : amLenQ 74 := amLen_74
theorem amLenR_75 : amLenQ 75 := amLen_75
theorem amLenR_76 : amLenQ 76 := amLen_76
theorem amLenR_77 : amLenQ 77 := amLen_77
theorem amLenR_78 : amLenQ 78 := amLen_78
theorem amLenR_79 : amLenQ 79 := amLen_79
theorem amLenR_80 : amLenQ 80 := amLen_80
theorem amLenR_81 : amLenQ 81 := amLen_81
theorem amLenR_82 : amLenQ 82 := amLen_82
theorem amLenR_83 : amLenQ 83 := amLen_83
theorem amLenR_84 : amLenQ 84 := amLen_84
theorem amLenR_85 : amLenQ 85 := amLen_85
theorem amLenR_86 : amLenQ 86 := amLen_86
theorem amLenR_87 : amLenQ 87 := amLen_87
theorem amLenR_88 : amLenQ 88 := amLen_88
theorem amLenR_89 : amLenQ 89 := amLen_89
theorem amLenR_90 : amLenQ 90 := amLen_90
theorem amLenR_91 : amLenQ 91 := amLen_91
theorem amLenR_92 : amLenQ 92 := amLen_92
theorem amLenR_93 : amLenQ 93 := amLen_93
theorem amLenR_94 : amLenQ 94 := amLen_94
theorem amLenR_95 : amLenQ 95 := amLen_95
theorem amLenR_96 : amLenQ 96 := amLen_96
theorem amLenR_97 : amLenQ 97 := amLen_97
theorem amLenR_98 : amLenQ 98 := amLen_98
theorem amLenR_99 : amLenQ 99 := amLen_99
theorem amLenR_100 : amLenQ 100 := amLen_100
theorem amLenR_101 : amLenQ 101 := amLen_101
theorem amLenR_102 : amLenQ 102 := amLen_102
theorem amLenR_103 : amLenQ 103 := amLen_103
theorem amLenR_104 : amLenQ 104 := amLen_104
theorem amLenR_105 : amLenQ 105 := amLen_105
theorem amLenR_106 : amLenQ 106 := amLen_106
theorem amLenR_107 : amLenQ 107 := amLen_107
theorem amLenR_108 : amLenQ 108 := amLen_108
theorem amLenR_109 : amLenQ 109 := amLen_109
theorem amLenR_110 : amLenQ 110 := amLen_110
theorem amLenR_111 : amLenQ 111 := amLen_111
theorem amLenR_112 : amLenQ 112 := amLen_112
theorem amLenR_113 : amLenQ 113 := amLen_113
theorem amLenR_114 : amLenQ 114 := amLen_114
theorem amLenR_115 : amLenQ 115 := amLen_115
theorem amLenR_116 : amLenQ 116 := amLen_116
theorem amLenR_117 : amLenQ 117 := amLen_117
theorem amLenR_118 : amLenQ 118 := amLen_118
theorem amLenR_119 : amLenQ 119 := amLen_119
theorem amLenR_120 : amLenQ 120 := amLen_120
theorem amLenR_121 : amLenQ 121 := amLen_121
theorem amLenR_122 : amLenQ 122 := amLen_122
theorem amLenR_123 : amLenQ 123 := amLen_123
theorem amLenR_124 : amLenQ 124 := amLen_124
theorem amLenR_125 : amLenQ 125 := amLen_125
theorem amLenR_126 : amLenQ 126 := amLen_126
theorem amLenR_127 : amLenQ 127 := amLen_127
theorem amLenR_128 : amLenQ 128 := amLen_128
theorem amLenR_129 : amLenQ 129 := amLen_129
theorem amLenR_130 : amLenQ 130 := amLen_130
theorem amLenR_131 : amLenQ 131 := amLen_131
theorem amLenR_132 : amLenQ 132 := amLen_132
theorem amLenR_133 : amLenQ 133 := amLen_133
theorem amLenR_134 : amLenQ 134 := amLen_134
theorem amLenR_135 : amLenQ 135 := amLen_135
theorem amLenR_136 : amLenQ 136 := amLen_136
theorem amLenR_137 : amLenQ 137 := amLen_137
theorem amLenR_138 : amLenQ 138 := amLen_138
theorem amLenR_139 : amLenQ 139 := amLen_139
theorem amLenR_140 : amLenQ 140 := amLen_140
theorem amLenR_141 : amLenQ 141 := amLen_141
theorem amLenR_142 : amLenQ 142 := amLen_142
theorem amLenR_143 : amLenQ 143 := amLen_143
theorem amLenR_144 : amLenQ 144 := amLen_144
theorem amLenR_145 : amLenQ 145 := amLen_145
theorem amLenR_146 : amLenQ 146 := amLen_146
theorem amLenR_147 : amLenQ 147 := amLen_147
theorem amLenR_148 : amLenQ 148 := amLen_148
theorem amLenR_149 : amLenQ 149 := amLen_149
theorem amLenR_150 : amLenQ 150 := amLen_150
theorem amLenR_151 : amLenQ 151 := amLen_151
theorem amLenR_152 : amLenQ 152 := amLen_152
theorem amLenR_153 : amLenQ 153 := amLen_153
theorem amLenR_154 : amLenQ 154 := amLen_154
theorem amLenR_155 : amLenQ 155 := amLen_155
theorem amLenR_156 : amLenQ 156 := amLen_156
theorem amLenR_157 : amLenQ 157 := amLen_157
theorem amLenR_158 : amLenQ 158 := amLen_158
theorem amLenR_159 : amLenQ 159 := amLen_159
theorem amLenR_160 : amLenQ 160 := amLen_160
theorem amLenR_161 : amLenQ 161 := amLen_161
theorem amLenR_162 : amLenQ 162 := amLen_162
theorem amLenR_163 : amLenQ 163 := amLen_163
theorem amLenR_164 : amLenQ 164 := amLen_164
theorem amLenR_165 : amLenQ 165 := amLen_165
theorem amLenR_166 : amLenQ 166 := amLen_166
theorem amLenR_167 : amLenQ 167 := amLen_167
theorem amLenR_168 : amLenQ 168 := amLen_168
theorem amLenR_169 : amLenQ 169 := amLen_169
theorem amLenR_170 : amLenQ 170 := amLen_170
theorem amLenR_171 : amLenQ 171 := amLen_171
theorem amLenR_172 : amLenQ 172 := amLen_172
theorem amLenR_173 : amLenQ 173 := amLen_173
theorem amLenR_174 : amLenQ 174 := amLen_174
theorem amLenR_175 : amLenQ 175 := amLen_175
theorem amLenR_176 : amLenQ 176 := amLen_176
theorem amLenR_177 : amLenQ 177 := amLen_177
theorem amLenR_178 : amLenQ 178 := amLen_178
theorem amLenR_179 : amLenQ 179 := amLen_179
theorem amLenR_180 : amLenQ 180 := amLen_180
theorem amLenR_181 : amLenQ 181 := amLen_181
theorem amLenR_182 : amLenQ 182 := amLen_182
theorem amLenR_183 : amLenQ 183 := amLen_183
theorem amLenR_184 : amLenQ 184 := amLen_184
theorem amLenR_185 : amLenQ 185 := amLen_185
theorem amLenR_186 : amLenQ 186 := amLen_186
theorem amLenR_187 : amLenQ 187 := amLen_187
theorem amLenR_188 : amLenQ 188 := amLen_188
theorem amLenR_189 : amLenQ 189 := amLen_189
theorem amLenR_190 : amLenQ 190 := amLen_190
theorem amLenR_191 : amLenQ 191 := amLen_191
theorem amLenR_192 : amLenQ 192 := amLen_192
theorem amLenR_193 : amLenQ 193 := amLen_193
theorem amLenR_194 : amLenQ 194 := amLen_194
theorem amLenR_195 : amLenQ 195 := amLen_195
theorem amLenR_196 : amLenQ 196 := amLen_196
theorem amLenR_197 : amLenQ 197 := amLen_197
theorem amLenR_198 : amLenQ 198 := amLen_198
theorem amLenR_199 : amLenQ 199 := amLen_199
theorem amLenR_200 : amLenQ 200 := amLen_200
theorem amLenR_201 : amLenQ 201 := amLen_201
theorem amLenR_202 : amLenQ 202 := amLen_202
theorem amLenR_203 : amLenQ 203 := amLen_203
theorem amLenR_204 : amLenQ 204 := amLen_204
theorem amLenR_205 : amLenQ 205 := amLen_205
theorem amLenR_206 : amLenQ 206 := amLen_206
theorem amLenR_207 : amLenQ 207 := amLen_207
theorem amLenR_208 : amLenQ 208 := amLen_208
theorem amLenR_209 : amLenQ 209 := amLen_209
theorem amLenR_210 : amLenQ 210 := amLen_210
theorem amLenR_211 : amLenQ 211 := amLen_211
theorem amLenR_212 : amLenQ 212 := amLen_212
theorem amLenR_213 : amLenQ 213 := amLen_213
theorem amLenR_214 : amLenQ 214 := amLen_214
theorem amLenR_215 : amLenQ 215 := amLen_215
theorem amLenR_216 : amLenQ 216 := amLen_216
theorem amLenR_217 : amLenQ 217 := amLen_217
theorem amLenR_218 : amLenQ 218 := amLen_218
theorem amLenR_219 : amLenQ 219 := amLen_219
theorem amLenR_220 : amLenQ 220 := amLen_220
theorem amLenR_221 : amLenQ 221 := amLen_221
theorem amLenR_222 : amLenQ 222 := amLen_222
theorem amLenR_223 : amLenQ 223 := amLen_223
theorem amLenR_224 : amLenQ 224 := amLen_224
theorem amLenR_225 : amLenQ 225 := amLen_225
theorem amLenR_226 : amLenQ 226 := amLen_226
theorem amLenR_227 : amLenQ 227 := amLen_227
theorem amLenR_228 : amLenQ 228 := amLen_228
theorem amLenR_229 : amLenQ 229 := amLen_229
theorem amLenR_230 : amLenQ 230 := amLen_230
theorem amLenR_231 : amLenQ 231 := amLen_231
theorem amLenR_232 : amLenQ 232 := amLen_232
theorem amLenR_233 : amLenQ 233 := amLen_233
theorem amLenR_234 : amLenQ 234 := amLen_234
theorem amLenR_235 : amLenQ 235 := amLen_235
theorem amLenR_236 : amLenQ 236 := amLen_236
theorem amLenR_237 : amLenQ 237 := amLen_237
theorem amLenR_238 : amLenQ 238 := amLen_238
theorem amLenR_239 : amLenQ 239 := amLen_239
theorem amLenR_240 : amLenQ 240 := amLen_240
theorem amLenR_241 : amLenQ 241 := amLen_241
theorem amLenR_242 : amLenQ 242 := amLen_242
theorem amLenR_243 : amLenQ 243 := amLen_243
theorem amLenR_244 : amLenQ 244 := amLen_244
theorem amLenR_245 : amLenQ 245 := amLen_245
theorem amLenR_246 : amLenQ 246 := amLen_246
theorem amLenR_247 : amLenQ 247 := amLen_247
theorem amLenR_248 : amLenQ 248 := amLen_248
theorem amLenR_249 : amLenQ 249 := amLen_249
theorem amLenR_250 : amLenQ 250 := amLen_250
theorem amLenAC_30 : ∀ a, a < 30 → amLenQ a := lt_s (lt_s (lt_s (lt_s (lt_s (lt_s (lt_s (lt_s (lt_s (lt_s (lt_s (lt_s (lt_s (lt_s (lt_s (lt_s (lt_s (lt_s (lt_s (lt_s (lt_s (lt_s (lt_s (lt_s (lt_s (lt_s (lt_s (lt_s (lt_s (lt_s (lt_0) (amLenR_0)) (amLenR_1)) (amLenR_2)) (amLenR_3)) (amLenR_4)) (amLenR_5)) (amLenR_6)) (amLenR_7)) (amLenR_8)) (amLenR_9)) (amLenR_10)) (amLenR_11)) (amLenR_12)) (amLenR_13)) (amLenR_14)) (amLenR_15)) (amLenR_16)) (amLenR_17)) (amLenR_18)) (amLenR_19)) (amLenR_20)) (amLenR_21)) (amLenR_22)) (amLenR_23)) (amLenR_24)) (amLenR_25)) (amLenR_26)) (amLenR_27)) (amLenR_28)) (amLenR_29)
theorem amLenAC_60 : ∀ a, a < 60 → amLenQ a := lt_s (lt_s (lt_s (lt_s (lt_s (lt_s (lt_s (lt_s (lt_s (lt_s (lt_s (lt_s (lt_s (lt_s (lt_s (lt_s (lt_s (lt_s (lt_s (lt_s (lt_s (lt_s (lt_s (lt_s (lt_s (lt_s (lt_s (lt_s (lt_s (lt_s (amLenAC_30) (amLenR_30)) (amLenR_31)) (amLenR_32)) (amLenR_33)) (amLenR_34)) (amLenR_35)) (amLenR_36)) (amLenR_37)) (amLenR_38)) (amLenR_39)) (amLenR_40)) (amLenR_41)) (amLenR_42)) (amLenR_43)) (amLenR_44)) (amLenR_45)) (amLenR_46)) (amLenR_47)) (amLenR_48)) (amLenR_49)) (amLenR_50)) (amLenR_51)) (amLenR_52)) (amLenR_53)) (amLenR_54)) (amLenR_55)) (amLenR_56)) (amLenR_57)) (amLenR_58)) (amLenR_59)
theorem amLenAC_90 : ∀ a, a < 90 → amLenQ a := lt_s (lt_s (lt_s (lt_s (lt_s (lt_s (lt_s (lt_s (lt_s (lt_s (lt_s (lt_s (lt_s (lt_s (lt_s (lt_s (lt_s (lt_s (lt_s (lt_s (lt_s (lt_s (lt_s (lt_s (lt_s (lt_s (lt_s (lt_s (lt_s (lt_s (amLenAC_60) (amLenR_60)) (amLenR_61)) (amLenR_62)) (amLenR_63)) (amLenR_64)) (amLenR_65)) (amLenR_66)) (amLenR_67)) (amLenR_68)) (amLenR_69)) (amLenR_70)) (amLenR_71)) (amLenR_72)) (amLenR_73)) (amLenR_74)) (amLenR_75)) (amLenR_76)) (amLenR_77)) (amLenR_78)) (amLenR_79)) (amLenR_80)) (amLenR_81)) (amLenR_82)) (amLenR_83)) (amLenR_84)) (amLenR_85)) (amLenR_86)) (amLenR_87)) (amLenR_88)) (amLenR_89)
theorem amLenAC_120 : ∀ a, a < 120 → amLenQ a := lt_s (lt_s (lt_s (lt_s (lt_s (lt_s (lt_s (lt_s (lt_s (lt_s (lt_s (lt_s (lt_s (lt_s (lt_s (lt_s (lt_s (lt_s (lt_s (lt_s (lt_s (lt_s (lt_s (lt_s (lt_s (lt_s (lt_s (lt_s (lt_s (lt_s (amLenAC_90) (amLenR_90)) (amLenR_91)) (amLenR_92)) (amLenR_93)) (amLenR_94)) (amLenR_95)) (amLenR_96)) (amLenR_97)) (amLenR_98)) (amLenR_99)) (amLenR_100)) (amLenR_101)) (amLenR_102)) (amLenR_103)) (amLenR_104)) (amLenR_105)) (amLenR_106)) (amLenR_107)) (amLenR_108)) (amLenR_109)) (amLenR_110)) (amLenR_111)) (amLenR_112)) (amLenR_113)) (amLenR_114)) (amLenR_115)) (amLenR_116)) (amLenR_117)) (amLenR_118)) (amLenR_119)
theorem amLenAC_150 : ∀ a, a < 150 → amLenQ a := lt_s (lt_s (lt_s (lt_s (lt_s (lt_s (lt_s (lt_s (lt_s (lt_s (lt_s (lt_s (lt_s (lt_s (lt_s (lt_s (lt_s (lt_s (lt_s (lt_s (lt_s (lt_s (lt_s (lt_s (lt_s (lt_s (lt_s (lt_s (lt_s (lt_s (amLenAC_120) (amLenR_120)) (amLenR_121)) (amLenR_122)) (amLenR_123)) (amLenR_124)) (amLenR_125)) (amLenR_126)) (amLenR_127)) (amLenR_128)) (amLenR_129)) (amLenR_130)) (amLenR_131)) (amLenR_132)) (amLenR_133)) (amLenR_134)) (amLenR_135)) (amLenR_136)) (amLenR_137)) (amLenR_138)) (amLenR_139)) (amLenR_140)) (amLenR_141)) (amLenR_142)) (amLenR_143)) (amLenR_144)) (amLenR_145)) (amLenR_146)) (amLenR_147)) (amLenR_148)) (amLenR_149)
theorem amLenAC_180 : ∀ a, a < 180 → amLenQ a := lt_s (lt_s (lt_s (lt_s (lt_s (lt_s (lt_s (lt_s (lt_s (lt_s (lt_s (lt_s (lt_s (lt_s (lt_s (lt_s (lt_s (lt_s (lt_s (lt_s (lt_s (lt_s (lt_s (lt_s (lt_s (lt_s (lt_s (lt_s (lt_s (lt_s (amLenAC_150) (amLenR_150)) (amLenR_151)) (amLenR_152)) (amLenR_153)) (amLenR_154)) (amLenR_155)) (amLenR_156)) (amLenR_157)) (amLenR_158)) (amLenR_159)) (amLenR_160)) (amLenR_161)) (amLenR_162)) (amLenR_163)) (amLenR_164)) (amLenR_165)) (amLenR_166)) (amLenR_167)) (amLenR_168)) (amLenR_169)) (amLenR_170)) (amLenR_171)) (amLenR_172)) (amLenR_173)) (amLenR_174)) (amLenR_175)) (amLenR_176)) (amLenR_177)) (amLenR_178)) (amLenR_179)
theorem amLenAC_210 : ∀ a, a < 210 → amLenQ a := lt_s (lt_s (lt_s (lt_s (lt_s (lt_s (lt_s (lt_s (lt_s (lt_s (lt_s (lt_s (lt_s (lt_s (lt_s (lt_s (lt_s (lt_s (lt_s (lt_s (lt_s (lt_s (lt_s (lt_s (lt_s (lt_s (lt_s (lt_s (lt_s (lt_s (amLenAC_180) (amLenR_180)) (amLenR_181)) (amLenR_182)) (amLenR_183)) (amLenR_184)) (amLenR_185)) (amLenR_186)) (amLenR_187)) (amLenR_188)) (amLenR_189)) (amLenR_190)) (amLenR_191)) (amLenR_192)) (amLenR_193)) (amLenR_194)) (amLenR_195)) (amLenR_196)) (amLenR_197)) (amLenR_198)) (amLenR_199)) (amLenR_200)) (amLenR_201)) (amLenR_202)) (amLenR_203)) (amLenR_204)) (amLenR_205)) (amLenR_206)) (amLenR_207)) (amLenR_208)) (amLenR_209)
theorem amLenAC_240 : ∀ a, a < 240 → amLenQ a := lt_s (lt_s (lt_s (lt_s (lt_s (lt_s (lt_s (lt_s (lt_s (lt_s (lt_s (lt_s (lt_s (lt_s (lt_s (lt_s (lt_s (lt_s (lt_s (lt_s (lt_s (lt_s (lt_s (lt_s (lt_s (lt_s (lt_s (lt_s (lt_s (lt_s (amLenAC_210) (amLenR_210)) (amLenR_211)) (amLenR_212)) (amLenR_213)) (amLenR_214)) (amLenR_215)) (amLenR_216)) (amLenR_217)) (amLenR_218)) (amLenR_219)) (amLenR_220)) (amLenR_221)) (amLenR_222)) (amLenR_223)) (amLenR_224)) (amLenR_225)) (amLenR_226)) (amLenR_227)) (amLenR_228)) (amLenR_229)) (amLenR_230)) (amLenR_231)) (amLenR_232)) (amLenR_233)) (amLenR_234)) (amLenR_235)) (amLenR_236)) (amLenR_237)) (amLenR_238)) (amLenR_239)
theorem amLenAC_251 : ∀ a, a < 251 → amLenQ a := lt_s (lt_s (lt_s (lt_s (lt_s (lt_s (lt_s (lt_s (lt_s (lt_s (lt_s (amLenAC_240) (amLenR_240)) (amLenR_241)) (amLenR_242)) (amLenR_243)) (amLenR_244)) (amLenR_245)) (amLenR_246)) (amLenR_247)) (amLenR_248)) (amLenR_249)) (amLenR_250)
theorem amLenA : ∀ a, a < 251 → amLenQ a := amLenAC_251
theorem amMk_0 : ((List.range 50).drop 0).all (fun j => j == 0 || amMk j) = true := by decide +kernel
theorem amMk_50 : ((List.range 100).drop 50).all (fun j => j == 0 || amMk j) = true := by decide +kernel
theorem amMk_100 : ((List.range 150).drop 100).all (fun j => j == 0 || amMk j) = true := by decide +kernel
theorem amMk_150 : ((List.range 200).drop 150).all (fun j => j == 0 || amMk j) = true := by decide +kernel
theorem amMk_200 : ((List.range 250).drop 200).all (fun j => j == 0 || amMk j) = true := by decide +kernel
theorem amMk_250 : ((List.range 251).drop 250).all (fun j => j == 0 || amMk j) = true := by decide +kernel
