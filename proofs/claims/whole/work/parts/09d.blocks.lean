/-! the blocks are the bytecode -/
set_option maxRecDepth 100000 in
theorem xGb_150 : xGb 150 = true := by decide +kernel
set_option maxRecDepth 100000 in
theorem xGb_151 : xGb 151 = true := by decide +kernel
set_option maxRecDepth 100000 in
theorem xGb_152 : xGb 152 = true := by decide +kernel
set_option maxRecDepth 100000 in
theorem xGb_153 : xGb 153 = true := by decide +kernel
set_option maxRecDepth 100000 in
theorem xGb_154 : xGb 154 = true := by decide +kernel
set_option maxRecDepth 100000 in
theorem xGb_155 : xGb 155 = true := by decide +kernel
set_option maxRecDepth 100000 in
theorem xGb_156 : xGb 156 = true := by decide +kernel
set_option maxRecDepth 100000 in
theorem xGb_157 : xGb 157 = true := by decide +kernel
set_option maxRecDepth 100000 in
theorem xGb_158 : xGb 158 = true := by decide +kernel
set_option maxRecDepth 100000 in
theorem xGb_159 : xGb 159 = true := by decide +kernel
set_option maxRecDepth 100000 in
theorem xGb_160 : xGb 160 = true := by decide +kernel
set_option maxRecDepth 100000 in
theorem xGb_161 : xGb 161 = true := by decide +kernel
set_option maxRecDepth 100000 in
theorem xGb_162 : xGb 162 = true := by decide +kernel
set_option maxRecDepth 100000 in
theorem xGb_163 : xGb 163 = true := by decide +kernel
set_option maxRecDepth 100000 in
theorem xGb_164 : xGb 164 = true := by decide +kernel
set_option maxRecDepth 100000 in
theorem xGb_165 : xGb 165 = true := by decide +kernel
set_option maxRecDepth 100000 in
theorem xGb_166 : xGb 166 = true := by decide +kernel
set_option maxRecDepth 100000 in
theorem xGb_167 : xGb 167 = true := by decide +kernel
set_option maxRecDepth 100000 in
theorem xGb_168 : xGb 168 = true := by decide +kernel
set_option maxRecDepth 100000 in
theorem xGb_169 : xGb 169 = true := by decide +kernel
set_option maxRecDepth 100000 in
theorem xGb_170 : xGb 170 = true := by decide +kernel
set_option maxRecDepth 100000 in
theorem xGb_171 : xGb 171 = true := by decide +kernel
set_option maxRecDepth 100000 in
theorem xGb_172 : xGb 172 = true := by decide +kernel
set_option maxRecDepth 100000 in
theorem xGb_173 : xGb 173 = true := by decide +kernel
set_option maxRecDepth 100000 in
theorem xGb_174 : xGb 174 = true := by decide +kernel
set_option maxRecDepth 100000 in
theorem xGb_175 : xGb 175 = true := by decide +kernel
set_option maxRecDepth 100000 in
theorem xGb_176 : xGb 176 = true := by decide +kernel
set_option maxRecDepth 100000 in
theorem xGb_177 : xGb 177 = true := by decide +kernel
set_option maxRecDepth 100000 in
theorem xGb_178 : xGb 178 = true := by decide +kernel
set_option maxRecDepth 100000 in
theorem xGb_179 : xGb 179 = true := by decide +kernel
set_option maxRecDepth 100000 in
theorem xGb_180 : xGb 180 = true := by decide +kernel
set_option maxRecDepth 100000 in
theorem xGb_181 : xGb 181 = true := by decide +kernel
set_option maxRecDepth 100000 in
theorem xGb_182 : xGb 182 = true := by decide +kernel
set_option maxRecDepth 100000 in
theorem xGb_183 : xGb 183 = true := by decide +kernel
set_option maxRecDepth 100000 in
theorem xGb_184 : xGb 184 = true := by decide +kernel
set_option maxRecDepth 100000 in
theorem xGb_185 : xGb 185 = true := by decide +kernel
set_option maxRecDepth 100000 in
theorem xGb_186 : xGb 186 = true := by decide +kernel
set_option maxRecDepth 100000 in
theorem xGb_187 : xGb 187 = true := by decide +kernel
set_option maxRecDepth 100000 in
theorem xGb_188 : xGb 188 = true := by decide +kernel
set_option maxRecDepth 100000 in
theorem xGb_189 : xGb 189 = true := by decide +kernel
set_option maxRecDepth 100000 in
theorem xGb_190 : xGb 190 = true := by decide +kernel
set_option maxRecDepth 100000 in
theorem xGb_191 : xGb 191 = true := by decide +kernel
set_option maxRecDepth 100000 in
theorem xGb_192 : xGb 192 = true := by decide +kernel
set_option maxRecDepth 100000 in
theorem xGb_193 : xGb 193 = true := by decide +kernel
set_option maxRecDepth 100000 in
theorem xGb_194 : xGb 194 = true := by decide +kernel
set_option maxRecDepth 100000 in
theorem xGb_195 : xGb 195 = true := by decide +kernel
set_option maxRecDepth 100000 in
theorem xGb_196 : xGb 196 = true := by decide +kernel
set_option maxRecDepth 100000 in
theorem xGb_197 : xGb 197 = true := by decide +kernel
set_option maxRecDepth 100000 in
theorem xGb_198 : xGb 198 = true := by decide +kernel
theorem xGbC0 : ∀ j, j < 25 → xGb (0 + j) = true
  | 0, _ => xGb_0
  | 1, _ => xGb_1
  | 2, _ => xGb_2
  | 3, _ => xGb_3
  | 4, _ => xGb_4
  | 5, _ => xGb_5
  | 6, _ => xGb_6
  | 7, _ => xGb_7
  | 8, _ => xGb_8
  | 9, _ => xGb_9
  | 10, _ => xGb_10
  | 11, _ => xGb_11
  | 12, _ => xGb_12
  | 13, _ => xGb_13
  | 14, _ => xGb_14
  | 15, _ => xGb_15
  | 16, _ => xGb_16
  | 17, _ => xGb_17
  | 18, _ => xGb_18
  | 19, _ => xGb_19
  | 20, _ => xGb_20
  | 21, _ => xGb_21
  | 22, _ => xGb_22
  | 23, _ => xGb_23
  | 24, _ => xGb_24
  | n + 25, h => absurd h (by omega)
theorem xGbC25 : ∀ j, j < 25 → xGb (25 + j) = true
  | 0, _ => xGb_25
  | 1, _ => xGb_26
  | 2, _ => xGb_27
  | 3, _ => xGb_28
  | 4, _ => xGb_29
  | 5, _ => xGb_30
  | 6, _ => xGb_31
  | 7, _ => xGb_32
  | 8, _ => xGb_33
  | 9, _ => xGb_34
  | 10, _ => xGb_35
  | 11, _ => xGb_36
  | 12, _ => xGb_37
  | 13, _ => xGb_38
  | 14, _ => xGb_39
  | 15, _ => xGb_40
  | 16, _ => xGb_41
  | 17, _ => xGb_42
  | 18, _ => xGb_43
  | 19, _ => xGb_44
  | 20, _ => xGb_45
  | 21, _ => xGb_46
  | 22, _ => xGb_47
  | 23, _ => xGb_48
  | 24, _ => xGb_49
  | n + 25, h => absurd h (by omega)
theorem xGbC50 : ∀ j, j < 25 → xGb (50 + j) = true
  | 0, _ => xGb_50
  | 1, _ => xGb_51
  | 2, _ => xGb_52
  | 3, _ => xGb_53
  | 4, _ => xGb_54
  | 5, _ => xGb_55
  | 6, _ => xGb_56
  | 7, _ => xGb_57
  | 8, _ => xGb_58
  | 9, _ => xGb_59
  | 10, _ => xGb_60
  | 11, _ => xGb_61
  | 12, _ => xGb_62
  | 13, _ => xGb_63
  | 14, _ => xGb_64
  | 15, _ => xGb_65
  | 16, _ => xGb_66
  | 17, _ => xGb_67
  | 18, _ => xGb_68
  | 19, _ => xGb_69
  | 20, _ => xGb_70
  | 21, _ => xGb_71
  | 22, _ => xGb_72
  | 23, _ => xGb_73
  | 24, _ => xGb_74
  | n + 25, h => absurd h (by omega)
theorem xGbC75 : ∀ j, j < 25 → xGb (75 + j) = true
  | 0, _ => xGb_75
  | 1, _ => xGb_76
  | 2, _ => xGb_77
  | 3, _ => xGb_78
  | 4, _ => xGb_79
  | 5, _ => xGb_80
  | 6, _ => xGb_81
  | 7, _ => xGb_82
  | 8, _ => xGb_83
  | 9, _ => xGb_84
  | 10, _ => xGb_85
  | 11, _ => xGb_86
  | 12, _ => xGb_87
  | 13, _ => xGb_88
  | 14, _ => xGb_89
  | 15, _ => xGb_90
  | 16, _ => xGb_91
  | 17, _ => xGb_92
  | 18, _ => xGb_93
  | 19, _ => xGb_94
  | 20, _ => xGb_95
  | 21, _ => xGb_96
  | 22, _ => xGb_97
  | 23, _ => xGb_98
  | 24, _ => xGb_99
  | n + 25, h => absurd h (by omega)
theorem xGbC100 : ∀ j, j < 25 → xGb (100 + j) = true
  | 0, _ => xGb_100
  | 1, _ => xGb_101
  | 2, _ => xGb_102
  | 3, _ => xGb_103
  | 4, _ => xGb_104
  | 5, _ => xGb_105
  | 6, _ => xGb_106
  | 7, _ => xGb_107
  | 8, _ => xGb_108
  | 9, _ => xGb_109
  | 10, _ => xGb_110
  | 11, _ => xGb_111
  | 12, _ => xGb_112
  | 13, _ => xGb_113
  | 14, _ => xGb_114
  | 15, _ => xGb_115
  | 16, _ => xGb_116
  | 17, _ => xGb_117
  | 18, _ => xGb_118
  | 19, _ => xGb_119
  | 20, _ => xGb_120
  | 21, _ => xGb_121
  | 22, _ => xGb_122
  | 23, _ => xGb_123
  | 24, _ => xGb_124
  | n + 25, h => absurd h (by omega)
theorem xGbC125 : ∀ j, j < 25 → xGb (125 + j) = true
  | 0, _ => xGb_125
  | 1, _ => xGb_126
  | 2, _ => xGb_127
  | 3, _ => xGb_128
  | 4, _ => xGb_129
  | 5, _ => xGb_130
  | 6, _ => xGb_131
  | 7, _ => xGb_132
  | 8, _ => xGb_133
  | 9, _ => xGb_134
  | 10, _ => xGb_135
  | 11, _ => xGb_136
  | 12, _ => xGb_137
  | 13, _ => xGb_138
  | 14, _ => xGb_139
  | 15, _ => xGb_140
  | 16, _ => xGb_141
  | 17, _ => xGb_142
  | 18, _ => xGb_143
  | 19, _ => xGb_144
  | 20, _ => xGb_145
  | 21, _ => xGb_146
  | 22, _ => xGb_147
  | 23, _ => xGb_148
  | 24, _ => xGb_149
  | n + 25, h => absurd h (by omega)
theorem xGbC150 : ∀ j, j < 25 → xGb (150 + j) = true
  | 0, _ => xGb_150
  | 1, _ => xGb_151
  | 2, _ => xGb_152
  | 3, _ => xGb_153
  | 4, _ => xGb_154
  | 5, _ => xGb_155
  | 6, _ => xGb_156
  | 7, _ => xGb_157
  | 8, _ => xGb_158
  | 9, _ => xGb_159
  | 10, _ => xGb_160
  | 11, _ => xGb_161
  | 12, _ => xGb_162
  | 13, _ => xGb_163
  | 14, _ => xGb_164
  | 15, _ => xGb_165
  | 16, _ => xGb_166
  | 17, _ => xGb_167
  | 18, _ => xGb_168
  | 19, _ => xGb_169
  | 20, _ => xGb_170
  | 21, _ => xGb_171
  | 22, _ => xGb_172
  | 23, _ => xGb_173
  | 24, _ => xGb_174
  | n + 25, h => absurd h (by omega)
theorem xGbC175 : ∀ j, j < 24 → xGb (175 + j) = true
  | 0, _ => xGb_175
  | 1, _ => xGb_176
  | 2, _ => xGb_177
  | 3, _ => xGb_178
  | 4, _ => xGb_179
  | 5, _ => xGb_180
  | 6, _ => xGb_181
  | 7, _ => xGb_182
  | 8, _ => xGb_183
  | 9, _ => xGb_184
  | 10, _ => xGb_185
  | 11, _ => xGb_186
  | 12, _ => xGb_187
  | 13, _ => xGb_188
  | 14, _ => xGb_189
  | 15, _ => xGb_190
  | 16, _ => xGb_191
  | 17, _ => xGb_192
  | 18, _ => xGb_193
  | 19, _ => xGb_194
  | 20, _ => xGb_195
  | 21, _ => xGb_196
  | 22, _ => xGb_197
  | 23, _ => xGb_198
  | n + 24, h => absurd h (by omega)
theorem xGb_ok (i : Nat) (hi : i < xNM) : xGb i = true := by
  have hi : i < 199 := hi
  by_cases h0 : i < 25
  · have := xGbC0 (i - 0) (by omega)
    rwa [show 0 + (i - 0) = i by omega] at this
  by_cases h25 : i < 50
  · have := xGbC25 (i - 25) (by omega)
    rwa [show 25 + (i - 25) = i by omega] at this
  by_cases h50 : i < 75
  · have := xGbC50 (i - 50) (by omega)
    rwa [show 50 + (i - 50) = i by omega] at this
  by_cases h75 : i < 100
  · have := xGbC75 (i - 75) (by omega)
    rwa [show 75 + (i - 75) = i by omega] at this
  by_cases h100 : i < 125
  · have := xGbC100 (i - 100) (by omega)
    rwa [show 100 + (i - 100) = i by omega] at this
  by_cases h125 : i < 150
  · have := xGbC125 (i - 125) (by omega)
    rwa [show 125 + (i - 125) = i by omega] at this
  by_cases h150 : i < 175
  · have := xGbC150 (i - 150) (by omega)
    rwa [show 150 + (i - 150) = i by omega] at this
  by_cases h175 : i < 199
  · have := xGbC175 (i - 175) (by omega)
    rwa [show 175 + (i - 175) = i by omega] at this
  omega
