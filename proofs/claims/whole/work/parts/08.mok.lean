/-! every method: its words stand in the tables; its blocks are its bytecode -/
set_option maxRecDepth 100000 in
theorem xMok_0 : xMok 0 = true := by decide +kernel
set_option maxRecDepth 100000 in
theorem xMok_1 : xMok 1 = true := by decide +kernel
set_option maxRecDepth 100000 in
theorem xMok_2 : xMok 2 = true := by decide +kernel
set_option maxRecDepth 100000 in
theorem xMok_3 : xMok 3 = true := by decide +kernel
set_option maxRecDepth 100000 in
theorem xMok_4 : xMok 4 = true := by decide +kernel
set_option maxRecDepth 100000 in
theorem xMok_5 : xMok 5 = true := by decide +kernel
set_option maxRecDepth 100000 in
theorem xMok_6 : xMok 6 = true := by decide +kernel
set_option maxRecDepth 100000 in
theorem xMok_7 : xMok 7 = true := by decide +kernel
set_option maxRecDepth 100000 in
theorem xMok_8 : xMok 8 = true := by decide +kernel
set_option maxRecDepth 100000 in
theorem xMok_9 : xMok 9 = true := by decide +kernel
set_option maxRecDepth 100000 in
theorem xMok_10 : xMok 10 = true := by decide +kernel
set_option maxRecDepth 100000 in
theorem xMok_11 : xMok 11 = true := by decide +kernel
set_option maxRecDepth 100000 in
theorem xMok_12 : xMok 12 = true := by decide +kernel
set_option maxRecDepth 100000 in
theorem xMok_13 : xMok 13 = true := by decide +kernel
set_option maxRecDepth 100000 in
theorem xMok_14 : xMok 14 = true := by decide +kernel
set_option maxRecDepth 100000 in
theorem xMok_15 : xMok 15 = true := by decide +kernel
set_option maxRecDepth 100000 in
theorem xMok_16 : xMok 16 = true := by decide +kernel
set_option maxRecDepth 100000 in
theorem xMok_17 : xMok 17 = true := by decide +kernel
set_option maxRecDepth 100000 in
theorem xMok_18 : xMok 18 = true := by decide +kernel
set_option maxRecDepth 100000 in
theorem xMok_19 : xMok 19 = true := by decide +kernel
set_option maxRecDepth 100000 in
theorem xMok_20 : xMok 20 = true := by decide +kernel
set_option maxRecDepth 100000 in
theorem xMok_21 : xMok 21 = true := by decide +kernel
set_option maxRecDepth 100000 in
theorem xMok_22 : xMok 22 = true := by decide +kernel
set_option maxRecDepth 100000 in
theorem xMok_23 : xMok 23 = true := by decide +kernel
set_option maxRecDepth 100000 in
theorem xMok_24 : xMok 24 = true := by decide +kernel
set_option maxRecDepth 100000 in
theorem xMok_25 : xMok 25 = true := by decide +kernel
set_option maxRecDepth 100000 in
theorem xMok_26 : xMok 26 = true := by decide +kernel
set_option maxRecDepth 100000 in
theorem xMok_27 : xMok 27 = true := by decide +kernel
set_option maxRecDepth 100000 in
theorem xMok_28 : xMok 28 = true := by decide +kernel
set_option maxRecDepth 100000 in
theorem xMok_29 : xMok 29 = true := by decide +kernel
set_option maxRecDepth 100000 in
theorem xMok_30 : xMok 30 = true := by decide +kernel
set_option maxRecDepth 100000 in
theorem xMok_31 : xMok 31 = true := by decide +kernel
set_option maxRecDepth 100000 in
theorem xMok_32 : xMok 32 = true := by decide +kernel
set_option maxRecDepth 100000 in
theorem xMok_33 : xMok 33 = true := by decide +kernel
set_option maxRecDepth 100000 in
theorem xMok_34 : xMok 34 = true := by decide +kernel
set_option maxRecDepth 100000 in
theorem xMok_35 : xMok 35 = true := by decide +kernel
set_option maxRecDepth 100000 in
theorem xMok_36 : xMok 36 = true := by decide +kernel
set_option maxRecDepth 100000 in
theorem xMok_37 : xMok 37 = true := by decide +kernel
set_option maxRecDepth 100000 in
theorem xMok_38 : xMok 38 = true := by decide +kernel
set_option maxRecDepth 100000 in
theorem xMok_39 : xMok 39 = true := by decide +kernel
set_option maxRecDepth 100000 in
theorem xMok_40 : xMok 40 = true := by decide +kernel
set_option maxRecDepth 100000 in
theorem xMok_41 : xMok 41 = true := by decide +kernel
set_option maxRecDepth 100000 in
theorem xMok_42 : xMok 42 = true := by decide +kernel
set_option maxRecDepth 100000 in
theorem xMok_43 : xMok 43 = true := by decide +kernel
set_option maxRecDepth 100000 in
theorem xMok_44 : xMok 44 = true := by decide +kernel
set_option maxRecDepth 100000 in
theorem xMok_45 : xMok 45 = true := by decide +kernel
set_option maxRecDepth 100000 in
theorem xMok_46 : xMok 46 = true := by decide +kernel
set_option maxRecDepth 100000 in
theorem xMok_47 : xMok 47 = true := by decide +kernel
set_option maxRecDepth 100000 in
theorem xMok_48 : xMok 48 = true := by decide +kernel
set_option maxRecDepth 100000 in
theorem xMok_49 : xMok 49 = true := by decide +kernel
set_option maxRecDepth 100000 in
theorem xMok_50 : xMok 50 = true := by decide +kernel
set_option maxRecDepth 100000 in
theorem xMok_51 : xMok 51 = true := by decide +kernel
set_option maxRecDepth 100000 in
theorem xMok_52 : xMok 52 = true := by decide +kernel
set_option maxRecDepth 100000 in
theorem xMok_53 : xMok 53 = true := by decide +kernel
set_option maxRecDepth 100000 in
theorem xMok_54 : xMok 54 = true := by decide +kernel
set_option maxRecDepth 100000 in
theorem xMok_55 : xMok 55 = true := by decide +kernel
set_option maxRecDepth 100000 in
theorem xMok_56 : xMok 56 = true := by decide +kernel
set_option maxRecDepth 100000 in
theorem xMok_57 : xMok 57 = true := by decide +kernel
set_option maxRecDepth 100000 in
theorem xMok_58 : xMok 58 = true := by decide +kernel
set_option maxRecDepth 100000 in
theorem xMok_59 : xMok 59 = true := by decide +kernel
set_option maxRecDepth 100000 in
theorem xMok_60 : xMok 60 = true := by decide +kernel
set_option maxRecDepth 100000 in
theorem xMok_61 : xMok 61 = true := by decide +kernel
set_option maxRecDepth 100000 in
theorem xMok_62 : xMok 62 = true := by decide +kernel
set_option maxRecDepth 100000 in
theorem xMok_63 : xMok 63 = true := by decide +kernel
set_option maxRecDepth 100000 in
theorem xMok_64 : xMok 64 = true := by decide +kernel
set_option maxRecDepth 100000 in
theorem xMok_65 : xMok 65 = true := by decide +kernel
set_option maxRecDepth 100000 in
theorem xMok_66 : xMok 66 = true := by decide +kernel
set_option maxRecDepth 100000 in
theorem xMok_67 : xMok 67 = true := by decide +kernel
set_option maxRecDepth 100000 in
theorem xMok_68 : xMok 68 = true := by decide +kernel
set_option maxRecDepth 100000 in
theorem xMok_69 : xMok 69 = true := by decide +kernel
set_option maxRecDepth 100000 in
theorem xMok_70 : xMok 70 = true := by decide +kernel
set_option maxRecDepth 100000 in
theorem xMok_71 : xMok 71 = true := by decide +kernel
set_option maxRecDepth 100000 in
theorem xMok_72 : xMok 72 = true := by decide +kernel
set_option maxRecDepth 100000 in
theorem xMok_73 : xMok 73 = true := by decide +kernel
set_option maxRecDepth 100000 in
theorem xMok_74 : xMok 74 = true := by decide +kernel
set_option maxRecDepth 100000 in
theorem xMok_75 : xMok 75 = true := by decide +kernel
set_option maxRecDepth 100000 in
theorem xMok_76 : xMok 76 = true := by decide +kernel
set_option maxRecDepth 100000 in
theorem xMok_77 : xMok 77 = true := by decide +kernel
set_option maxRecDepth 100000 in
theorem xMok_78 : xMok 78 = true := by decide +kernel
set_option maxRecDepth 100000 in
theorem xMok_79 : xMok 79 = true := by decide +kernel
set_option maxRecDepth 100000 in
theorem xMok_80 : xMok 80 = true := by decide +kernel
set_option maxRecDepth 100000 in
theorem xMok_81 : xMok 81 = true := by decide +kernel
set_option maxRecDepth 100000 in
theorem xMok_82 : xMok 82 = true := by decide +kernel
set_option maxRecDepth 100000 in
theorem xMok_83 : xMok 83 = true := by decide +kernel
set_option maxRecDepth 100000 in
theorem xMok_84 : xMok 84 = true := by decide +kernel
set_option maxRecDepth 100000 in
theorem xMok_85 : xMok 85 = true := by decide +kernel
set_option maxRecDepth 100000 in
theorem xMok_86 : xMok 86 = true := by decide +kernel
set_option maxRecDepth 100000 in
theorem xMok_87 : xMok 87 = true := by decide +kernel
set_option maxRecDepth 100000 in
theorem xMok_88 : xMok 88 = true := by decide +kernel
set_option maxRecDepth 100000 in
theorem xMok_89 : xMok 89 = true := by decide +kernel
set_option maxRecDepth 100000 in
theorem xMok_90 : xMok 90 = true := by decide +kernel
set_option maxRecDepth 100000 in
theorem xMok_91 : xMok 91 = true := by decide +kernel
set_option maxRecDepth 100000 in
theorem xMok_92 : xMok 92 = true := by decide +kernel
set_option maxRecDepth 100000 in
theorem xMok_93 : xMok 93 = true := by decide +kernel
set_option maxRecDepth 100000 in
theorem xMok_94 : xMok 94 = true := by decide +kernel
set_option maxRecDepth 100000 in
theorem xMok_95 : xMok 95 = true := by decide +kernel
set_option maxRecDepth 100000 in
theorem xMok_96 : xMok 96 = true := by decide +kernel
set_option maxRecDepth 100000 in
theorem xMok_97 : xMok 97 = true := by decide +kernel
set_option maxRecDepth 100000 in
theorem xMok_98 : xMok 98 = true := by decide +kernel
set_option maxRecDepth 100000 in
theorem xMok_99 : xMok 99 = true := by decide +kernel
set_option maxRecDepth 100000 in
theorem xMok_100 : xMok 100 = true := by decide +kernel
set_option maxRecDepth 100000 in
theorem xMok_101 : xMok 101 = true := by decide +kernel
set_option maxRecDepth 100000 in
theorem xMok_102 : xMok 102 = true := by decide +kernel
set_option maxRecDepth 100000 in
theorem xMok_103 : xMok 103 = true := by decide +kernel
set_option maxRecDepth 100000 in
theorem xMok_104 : xMok 104 = true := by decide +kernel
set_option maxRecDepth 100000 in
theorem xMok_105 : xMok 105 = true := by decide +kernel
set_option maxRecDepth 100000 in
theorem xMok_106 : xMok 106 = true := by decide +kernel
set_option maxRecDepth 100000 in
theorem xMok_107 : xMok 107 = true := by decide +kernel
set_option maxRecDepth 100000 in
theorem xMok_108 : xMok 108 = true := by decide +kernel
set_option maxRecDepth 100000 in
theorem xMok_109 : xMok 109 = true := by decide +kernel
set_option maxRecDepth 100000 in
theorem xMok_110 : xMok 110 = true := by decide +kernel
set_option maxRecDepth 100000 in
theorem xMok_111 : xMok 111 = true := by decide +kernel
set_option maxRecDepth 100000 in
theorem xMok_112 : xMok 112 = true := by decide +kernel
set_option maxRecDepth 100000 in
theorem xMok_113 : xMok 113 = true := by decide +kernel
set_option maxRecDepth 100000 in
theorem xMok_114 : xMok 114 = true := by decide +kernel
set_option maxRecDepth 100000 in
theorem xMok_115 : xMok 115 = true := by decide +kernel
set_option maxRecDepth 100000 in
theorem xMok_116 : xMok 116 = true := by decide +kernel
set_option maxRecDepth 100000 in
theorem xMok_117 : xMok 117 = true := by decide +kernel
set_option maxRecDepth 100000 in
theorem xMok_118 : xMok 118 = true := by decide +kernel
set_option maxRecDepth 100000 in
theorem xMok_119 : xMok 119 = true := by decide +kernel
set_option maxRecDepth 100000 in
theorem xMok_120 : xMok 120 = true := by decide +kernel
set_option maxRecDepth 100000 in
theorem xMok_121 : xMok 121 = true := by decide +kernel
set_option maxRecDepth 100000 in
theorem xMok_122 : xMok 122 = true := by decide +kernel
set_option maxRecDepth 100000 in
theorem xMok_123 : xMok 123 = true := by decide +kernel
set_option maxRecDepth 100000 in
theorem xMok_124 : xMok 124 = true := by decide +kernel
set_option maxRecDepth 100000 in
theorem xMok_125 : xMok 125 = true := by decide +kernel
set_option maxRecDepth 100000 in
theorem xMok_126 : xMok 126 = true := by decide +kernel
set_option maxRecDepth 100000 in
theorem xMok_127 : xMok 127 = true := by decide +kernel
set_option maxRecDepth 100000 in
theorem xMok_128 : xMok 128 = true := by decide +kernel
set_option maxRecDepth 100000 in
theorem xMok_129 : xMok 129 = true := by decide +kernel
set_option maxRecDepth 100000 in
theorem xMok_130 : xMok 130 = true := by decide +kernel
set_option maxRecDepth 100000 in
theorem xMok_131 : xMok 131 = true := by decide +kernel
set_option maxRecDepth 100000 in
theorem xMok_132 : xMok 132 = true := by decide +kernel
set_option maxRecDepth 100000 in
theorem xMok_133 : xMok 133 = true := by decide +kernel
set_option maxRecDepth 100000 in
theorem xMok_134 : xMok 134 = true := by decide +kernel
set_option maxRecDepth 100000 in
theorem xMok_135 : xMok 135 = true := by decide +kernel
set_option maxRecDepth 100000 in
theorem xMok_136 : xMok 136 = true := by decide +kernel
set_option maxRecDepth 100000 in
theorem xMok_137 : xMok 137 = true := by decide +kernel
set_option maxRecDepth 100000 in
theorem xMok_138 : xMok 138 = true := by decide +kernel
set_option maxRecDepth 100000 in
theorem xMok_139 : xMok 139 = true := by decide +kernel
set_option maxRecDepth 100000 in
theorem xMok_140 : xMok 140 = true := by decide +kernel
set_option maxRecDepth 100000 in
theorem xMok_141 : xMok 141 = true := by decide +kernel
set_option maxRecDepth 100000 in
theorem xMok_142 : xMok 142 = true := by decide +kernel
set_option maxRecDepth 100000 in
theorem xMok_143 : xMok 143 = true := by decide +kernel
set_option maxRecDepth 100000 in
theorem xMok_144 : xMok 144 = true := by decide +kernel
set_option maxRecDepth 100000 in
theorem xMok_145 : xMok 145 = true := by decide +kernel
set_option maxRecDepth 100000 in
theorem xMok_146 : xMok 146 = true := by decide +kernel
set_option maxRecDepth 100000 in
theorem xMok_147 : xMok 147 = true := by decide +kernel
set_option maxRecDepth 100000 in
theorem xMok_148 : xMok 148 = true := by decide +kernel
set_option maxRecDepth 100000 in
theorem xMok_149 : xMok 149 = true := by decide +kernel
set_option maxRecDepth 100000 in
theorem xMok_150 : xMok 150 = true := by decide +kernel
set_option maxRecDepth 100000 in
theorem xMok_151 : xMok 151 = true := by decide +kernel
set_option maxRecDepth 100000 in
theorem xMok_152 : xMok 152 = true := by decide +kernel
set_option maxRecDepth 100000 in
theorem xMok_153 : xMok 153 = true := by decide +kernel
set_option maxRecDepth 100000 in
theorem xMok_154 : xMok 154 = true := by decide +kernel
set_option maxRecDepth 100000 in
theorem xMok_155 : xMok 155 = true := by decide +kernel
set_option maxRecDepth 100000 in
theorem xMok_156 : xMok 156 = true := by decide +kernel
set_option maxRecDepth 100000 in
theorem xMok_157 : xMok 157 = true := by decide +kernel
set_option maxRecDepth 100000 in
theorem xMok_158 : xMok 158 = true := by decide +kernel
set_option maxRecDepth 100000 in
theorem xMok_159 : xMok 159 = true := by decide +kernel
set_option maxRecDepth 100000 in
theorem xMok_160 : xMok 160 = true := by decide +kernel
set_option maxRecDepth 100000 in
theorem xMok_161 : xMok 161 = true := by decide +kernel
set_option maxRecDepth 100000 in
theorem xMok_162 : xMok 162 = true := by decide +kernel
set_option maxRecDepth 100000 in
theorem xMok_163 : xMok 163 = true := by decide +kernel
set_option maxRecDepth 100000 in
theorem xMok_164 : xMok 164 = true := by decide +kernel
set_option maxRecDepth 100000 in
theorem xMok_165 : xMok 165 = true := by decide +kernel
set_option maxRecDepth 100000 in
theorem xMok_166 : xMok 166 = true := by decide +kernel
set_option maxRecDepth 100000 in
theorem xMok_167 : xMok 167 = true := by decide +kernel
set_option maxRecDepth 100000 in
theorem xMok_168 : xMok 168 = true := by decide +kernel
set_option maxRecDepth 100000 in
theorem xMok_169 : xMok 169 = true := by decide +kernel
set_option maxRecDepth 100000 in
theorem xMok_170 : xMok 170 = true := by decide +kernel
set_option maxRecDepth 100000 in
theorem xMok_171 : xMok 171 = true := by decide +kernel
set_option maxRecDepth 100000 in
theorem xMok_172 : xMok 172 = true := by decide +kernel
set_option maxRecDepth 100000 in
theorem xMok_173 : xMok 173 = true := by decide +kernel
set_option maxRecDepth 100000 in
theorem xMok_174 : xMok 174 = true := by decide +kernel
set_option maxRecDepth 100000 in
theorem xMok_175 : xMok 175 = true := by decide +kernel
set_option maxRecDepth 100000 in
theorem xMok_176 : xMok 176 = true := by decide +kernel
set_option maxRecDepth 100000 in
theorem xMok_177 : xMok 177 = true := by decide +kernel
set_option maxRecDepth 100000 in
theorem xMok_178 : xMok 178 = true := by decide +kernel
set_option maxRecDepth 100000 in
theorem xMok_179 : xMok 179 = true := by decide +kernel
set_option maxRecDepth 100000 in
theorem xMok_180 : xMok 180 = true := by decide +kernel
set_option maxRecDepth 100000 in
theorem xMok_181 : xMok 181 = true := by decide +kernel
set_option maxRecDepth 100000 in
theorem xMok_182 : xMok 182 = true := by decide +kernel
set_option maxRecDepth 100000 in
theorem xMok_183 : xMok 183 = true := by decide +kernel
set_option maxRecDepth 100000 in
theorem xMok_184 : xMok 184 = true := by decide +kernel
set_option maxRecDepth 100000 in
theorem xMok_185 : xMok 185 = true := by decide +kernel
set_option maxRecDepth 100000 in
theorem xMok_186 : xMok 186 = true := by decide +kernel
set_option maxRecDepth 100000 in
theorem xMok_187 : xMok 187 = true := by decide +kernel
set_option maxRecDepth 100000 in
theorem xMok_188 : xMok 188 = true := by decide +kernel
set_option maxRecDepth 100000 in
theorem xMok_189 : xMok 189 = true := by decide +kernel
set_option maxRecDepth 100000 in
theorem xMok_190 : xMok 190 = true := by decide +kernel
set_option maxRecDepth 100000 in
theorem xMok_191 : xMok 191 = true := by decide +kernel
set_option maxRecDepth 100000 in
theorem xMok_192 : xMok 192 = true := by decide +kernel
set_option maxRecDepth 100000 in
theorem xMok_193 : xMok 193 = true := by decide +kernel
set_option maxRecDepth 100000 in
theorem xMok_194 : xMok 194 = true := by decide +kernel
set_option maxRecDepth 100000 in
theorem xMok_195 : xMok 195 = true := by decide +kernel
set_option maxRecDepth 100000 in
theorem xMok_196 : xMok 196 = true := by decide +kernel
set_option maxRecDepth 100000 in
theorem xMok_197 : xMok 197 = true := by decide +kernel
set_option maxRecDepth 100000 in
theorem xMok_198 : xMok 198 = true := by decide +kernel
theorem xMokC0 : ∀ j, j < 25 → xMok (0 + j) = true
  | 0, _ => xMok_0
  | 1, _ => xMok_1
  | 2, _ => xMok_2
  | 3, _ => xMok_3
  | 4, _ => xMok_4
  | 5, _ => xMok_5
  | 6, _ => xMok_6
  | 7, _ => xMok_7
  | 8, _ => xMok_8
  | 9, _ => xMok_9
  | 10, _ => xMok_10
  | 11, _ => xMok_11
  | 12, _ => xMok_12
  | 13, _ => xMok_13
  | 14, _ => xMok_14
  | 15, _ => xMok_15
  | 16, _ => xMok_16
  | 17, _ => xMok_17
  | 18, _ => xMok_18
  | 19, _ => xMok_19
  | 20, _ => xMok_20
  | 21, _ => xMok_21
  | 22, _ => xMok_22
  | 23, _ => xMok_23
  | 24, _ => xMok_24
  | n + 25, h => absurd h (by omega)
theorem xMokC25 : ∀ j, j < 25 → xMok (25 + j) = true
  | 0, _ => xMok_25
  | 1, _ => xMok_26
  | 2, _ => xMok_27
  | 3, _ => xMok_28
  | 4, _ => xMok_29
  | 5, _ => xMok_30
  | 6, _ => xMok_31
  | 7, _ => xMok_32
  | 8, _ => xMok_33
  | 9, _ => xMok_34
  | 10, _ => xMok_35
  | 11, _ => xMok_36
  | 12, _ => xMok_37
  | 13, _ => xMok_38
  | 14, _ => xMok_39
  | 15, _ => xMok_40
  | 16, _ => xMok_41
  | 17, _ => xMok_42
  | 18, _ => xMok_43
  | 19, _ => xMok_44
  | 20, _ => xMok_45
  | 21, _ => xMok_46
  | 22, _ => xMok_47
  | 23, _ => xMok_48
  | 24, _ => xMok_49
  | n + 25, h => absurd h (by omega)
theorem xMokC50 : ∀ j, j < 25 → xMok (50 + j) = true
  | 0, _ => xMok_50
  | 1, _ => xMok_51
  | 2, _ => xMok_52
  | 3, _ => xMok_53
  | 4, _ => xMok_54
  | 5, _ => xMok_55
  | 6, _ => xMok_56
  | 7, _ => xMok_57
  | 8, _ => xMok_58
  | 9, _ => xMok_59
  | 10, _ => xMok_60
  | 11, _ => xMok_61
  | 12, _ => xMok_62
  | 13, _ => xMok_63
  | 14, _ => xMok_64
  | 15, _ => xMok_65
  | 16, _ => xMok_66
  | 17, _ => xMok_67
  | 18, _ => xMok_68
  | 19, _ => xMok_69
  | 20, _ => xMok_70
  | 21, _ => xMok_71
  | 22, _ => xMok_72
  | 23, _ => xMok_73
  | 24, _ => xMok_74
  | n + 25, h => absurd h (by omega)
theorem xMokC75 : ∀ j, j < 25 → xMok (75 + j) = true
  | 0, _ => xMok_75
  | 1, _ => xMok_76
  | 2, _ => xMok_77
  | 3, _ => xMok_78
  | 4, _ => xMok_79
  | 5, _ => xMok_80
  | 6, _ => xMok_81
  | 7, _ => xMok_82
  | 8, _ => xMok_83
  | 9, _ => xMok_84
  | 10, _ => xMok_85
  | 11, _ => xMok_86
  | 12, _ => xMok_87
  | 13, _ => xMok_88
  | 14, _ => xMok_89
  | 15, _ => xMok_90
  | 16, _ => xMok_91
  | 17, _ => xMok_92
  | 18, _ => xMok_93
  | 19, _ => xMok_94
  | 20, _ => xMok_95
  | 21, _ => xMok_96
  | 22, _ => xMok_97
  | 23, _ => xMok_98
  | 24, _ => xMok_99
  | n + 25, h => absurd h (by omega)
theorem xMokC100 : ∀ j, j < 25 → xMok (100 + j) = true
  | 0, _ => xMok_100
  | 1, _ => xMok_101
  | 2, _ => xMok_102
  | 3, _ => xMok_103
  | 4, _ => xMok_104
  | 5, _ => xMok_105
  | 6, _ => xMok_106
  | 7, _ => xMok_107
  | 8, _ => xMok_108
  | 9, _ => xMok_109
  | 10, _ => xMok_110
  | 11, _ => xMok_111
  | 12, _ => xMok_112
  | 13, _ => xMok_113
  | 14, _ => xMok_114
  | 15, _ => xMok_115
  | 16, _ => xMok_116
  | 17, _ => xMok_117
  | 18, _ => xMok_118
  | 19, _ => xMok_119
  | 20, _ => xMok_120
  | 21, _ => xMok_121
  | 22, _ => xMok_122
  | 23, _ => xMok_123
  | 24, _ => xMok_124
  | n + 25, h => absurd h (by omega)
theorem xMokC125 : ∀ j, j < 25 → xMok (125 + j) = true
  | 0, _ => xMok_125
  | 1, _ => xMok_126
  | 2, _ => xMok_127
  | 3, _ => xMok_128
  | 4, _ => xMok_129
  | 5, _ => xMok_130
  | 6, _ => xMok_131
  | 7, _ => xMok_132
  | 8, _ => xMok_133
  | 9, _ => xMok_134
  | 10, _ => xMok_135
  | 11, _ => xMok_136
  | 12, _ => xMok_137
  | 13, _ => xMok_138
  | 14, _ => xMok_139
  | 15, _ => xMok_140
  | 16, _ => xMok_141
  | 17, _ => xMok_142
  | 18, _ => xMok_143
  | 19, _ => xMok_144
  | 20, _ => xMok_145
  | 21, _ => xMok_146
  | 22, _ => xMok_147
  | 23, _ => xMok_148
  | 24, _ => xMok_149
  | n + 25, h => absurd h (by omega)
theorem xMokC150 : ∀ j, j < 25 → xMok (150 + j) = true
  | 0, _ => xMok_150
  | 1, _ => xMok_151
  | 2, _ => xMok_152
  | 3, _ => xMok_153
  | 4, _ => xMok_154
  | 5, _ => xMok_155
  | 6, _ => xMok_156
  | 7, _ => xMok_157
  | 8, _ => xMok_158
  | 9, _ => xMok_159
  | 10, _ => xMok_160
  | 11, _ => xMok_161
  | 12, _ => xMok_162
  | 13, _ => xMok_163
  | 14, _ => xMok_164
  | 15, _ => xMok_165
  | 16, _ => xMok_166
  | 17, _ => xMok_167
  | 18, _ => xMok_168
  | 19, _ => xMok_169
  | 20, _ => xMok_170
  | 21, _ => xMok_171
  | 22, _ => xMok_172
  | 23, _ => xMok_173
  | 24, _ => xMok_174
  | n + 25, h => absurd h (by omega)
theorem xMokC175 : ∀ j, j < 24 → xMok (175 + j) = true
  | 0, _ => xMok_175
  | 1, _ => xMok_176
  | 2, _ => xMok_177
  | 3, _ => xMok_178
  | 4, _ => xMok_179
  | 5, _ => xMok_180
  | 6, _ => xMok_181
  | 7, _ => xMok_182
  | 8, _ => xMok_183
  | 9, _ => xMok_184
  | 10, _ => xMok_185
  | 11, _ => xMok_186
  | 12, _ => xMok_187
  | 13, _ => xMok_188
  | 14, _ => xMok_189
  | 15, _ => xMok_190
  | 16, _ => xMok_191
  | 17, _ => xMok_192
  | 18, _ => xMok_193
  | 19, _ => xMok_194
  | 20, _ => xMok_195
  | 21, _ => xMok_196
  | 22, _ => xMok_197
  | 23, _ => xMok_198
  | n + 24, h => absurd h (by omega)
theorem xMok_ok (i : Nat) (hi : i < xNM) : xMok i = true := by
  have hi : i < 199 := hi
  by_cases h0 : i < 25
  · have := xMokC0 (i - 0) (by omega)
    rwa [show 0 + (i - 0) = i by omega] at this
  by_cases h25 : i < 50
  · have := xMokC25 (i - 25) (by omega)
    rwa [show 25 + (i - 25) = i by omega] at this
  by_cases h50 : i < 75
  · have := xMokC50 (i - 50) (by omega)
    rwa [show 50 + (i - 50) = i by omega] at this
  by_cases h75 : i < 100
  · have := xMokC75 (i - 75) (by omega)
    rwa [show 75 + (i - 75) = i by omega] at this
  by_cases h100 : i < 125
  · have := xMokC100 (i - 100) (by omega)
    rwa [show 100 + (i - 100) = i by omega] at this
  by_cases h125 : i < 150
  · have := xMokC125 (i - 125) (by omega)
    rwa [show 125 + (i - 125) = i by omega] at this
  by_cases h150 : i < 175
  · have := xMokC150 (i - 150) (by omega)
    rwa [show 150 + (i - 150) = i by omega] at this
  by_cases h175 : i < 199
  · have := xMokC175 (i - 175) (by omega)
    rwa [show 175 + (i - 175) = i by omega] at this
  omega
