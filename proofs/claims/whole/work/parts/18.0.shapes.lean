/-! SHAPES by offset; receivers -/
theorem sh_all {t n : Nat} (o t2 n2 : Nat) (h : (List.range am_N).all (fun a => !decide (am_shL[a]? = some (t, n)) || decide (am_shL[a + o]? = some (t2, n2))) = true) {a : Nat} (ha : sh a t n) : sh (a + o) t2 n2 := by
  have h1 := List.all_eq_true.mp h a (List.mem_range.mpr (sh_lt ha))
  simp only [Bool.or_eq_true, Bool.not_eq_true', decide_eq_false_iff_not, decide_eq_true_eq] at h1
  rcases h1 with h1 | h1
  · exact absurd ha h1
  · exact h1
theorem fr_all {t n : Nat} (o k o2 : Nat) (h : (List.range am_N).all (fun a => !decide (am_shL[a]? = some (t, n)) || decide (am_fr (a + o) k = a + o2)) = true) {a : Nat} (ha : sh a t n) : am_fr (a + o) k = a + o2 := by
  have h1 := List.all_eq_true.mp h a (List.mem_range.mpr (sh_lt ha))
  simp only [Bool.or_eq_true, Bool.not_eq_true', decide_eq_false_iff_not, decide_eq_true_eq] at h1
  rcases h1 with h1 | h1
  · exact absurd ha h1
  · exact h1
theorem rcv_ok {rz : am_Rec} {kd a t n : Nat} {as : List Value} {u : am_U} (h : sh a t n) (ht : t < 100 ∧ t = rz.2.2.2.2.1.1) : am_rcv rz kd (.ref a :: as) (am_emb u) = true := by
  unfold am_rcv
  simp only [em_obj h ht.1]
  have h1 := sh_lt h
  have h2 : ¬ a = am_S := by unfold am_S; unfold am_N at h1; omega
  exact decide_eq_true ⟨ht.2, h2⟩
theorem shl_0 : sh 0 11 16 := by unfold sh; decide +kernel
theorem shl_1 : sh 1 10 6 := by unfold sh; decide +kernel
theorem shl_2 : sh 2 102 1000 := by unfold sh; decide +kernel
theorem shl_3 : sh 3 100 1001 := by unfold sh; decide +kernel
theorem shl_4 : sh 4 100 1001 := by unfold sh; decide +kernel
theorem shl_5 : sh 5 101 1001 := by unfold sh; decide +kernel
theorem shl_6 : sh 6 7 10 := by unfold sh; decide +kernel
theorem shl_7 : sh 7 3 19 := by unfold sh; decide +kernel
theorem shl_8 : sh 8 6 3 := by unfold sh; decide +kernel
theorem shl_9 : sh 9 101 12 := by unfold sh; decide +kernel
theorem shl_10 : sh 10 6 3 := by unfold sh; decide +kernel
theorem shl_11 : sh 11 101 12 := by unfold sh; decide +kernel
theorem shl_12 : sh 12 6 3 := by unfold sh; decide +kernel
theorem shl_13 : sh 13 101 12 := by unfold sh; decide +kernel
theorem shl_14 : sh 14 6 3 := by unfold sh; decide +kernel
theorem shl_15 : sh 15 101 12 := by unfold sh; decide +kernel
theorem shl_16 : sh 16 100 12 := by unfold sh; decide +kernel
theorem shl_17 : sh 17 100 12 := by unfold sh; decide +kernel
theorem shl_18 : sh 18 100 12 := by unfold sh; decide +kernel
theorem shl_19 : sh 19 100 12 := by unfold sh; decide +kernel
theorem shl_20 : sh 20 100 12 := by unfold sh; decide +kernel
theorem shl_21 : sh 21 100 12 := by unfold sh; decide +kernel
theorem shl_22 : sh 22 100 6 := by unfold sh; decide +kernel
theorem shl_23 : sh 23 100 6 := by unfold sh; decide +kernel
theorem shl_24 : sh 24 100 6 := by unfold sh; decide +kernel
theorem shl_25 : sh 25 100 5 := by unfold sh; decide +kernel
theorem shl_26 : sh 26 100 5 := by unfold sh; decide +kernel
theorem shl_27 : sh 27 0 3 := by unfold sh; decide +kernel
theorem shl_28 : sh 28 100 1000 := by unfold sh; decide +kernel
theorem shl_29 : sh 29 100 64 := by unfold sh; decide +kernel
theorem shl_30 : sh 30 0 3 := by unfold sh; decide +kernel
theorem shl_31 : sh 31 100 1000 := by unfold sh; decide +kernel
theorem shl_32 : sh 32 100 64 := by unfold sh; decide +kernel
theorem shl_33 : sh 33 3 19 := by unfold sh; decide +kernel
theorem shl_34 : sh 34 6 3 := by unfold sh; decide +kernel
theorem shl_35 : sh 35 101 12 := by unfold sh; decide +kernel
theorem shl_36 : sh 36 6 3 := by unfold sh; decide +kernel
theorem shl_37 : sh 37 101 12 := by unfold sh; decide +kernel
theorem shl_38 : sh 38 6 3 := by unfold sh; decide +kernel
theorem shl_39 : sh 39 101 12 := by unfold sh; decide +kernel
theorem shl_40 : sh 40 6 3 := by unfold sh; decide +kernel
theorem shl_41 : sh 41 101 12 := by unfold sh; decide +kernel
theorem shl_42 : sh 42 100 12 := by unfold sh; decide +kernel
theorem shl_43 : sh 43 100 12 := by unfold sh; decide +kernel
theorem shl_44 : sh 44 100 12 := by unfold sh; decide +kernel
theorem shl_45 : sh 45 100 12 := by unfold sh; decide +kernel
theorem shl_46 : sh 46 100 12 := by unfold sh; decide +kernel
theorem shl_47 : sh 47 100 12 := by unfold sh; decide +kernel
theorem shl_48 : sh 48 100 6 := by unfold sh; decide +kernel
theorem shl_49 : sh 49 100 6 := by unfold sh; decide +kernel
theorem shl_50 : sh 50 100 6 := by unfold sh; decide +kernel
theorem shl_51 : sh 51 100 5 := by unfold sh; decide +kernel
theorem shl_52 : sh 52 100 5 := by unfold sh; decide +kernel
theorem shl_53 : sh 53 0 3 := by unfold sh; decide +kernel
theorem shl_54 : sh 54 100 1000 := by unfold sh; decide +kernel
theorem shl_55 : sh 55 100 64 := by unfold sh; decide +kernel
theorem shl_56 : sh 56 0 3 := by unfold sh; decide +kernel
theorem shl_57 : sh 57 100 1000 := by unfold sh; decide +kernel
theorem shl_58 : sh 58 100 64 := by unfold sh; decide +kernel
theorem shl_59 : sh 59 5 5 := by unfold sh; decide +kernel
theorem shl_60 : sh 60 100 24 := by unfold sh; decide +kernel
theorem shl_61 : sh 61 100 24 := by unfold sh; decide +kernel
theorem shl_62 : sh 62 100 24 := by unfold sh; decide +kernel
theorem shl_63 : sh 63 100 24 := by unfold sh; decide +kernel
theorem shl_64 : sh 64 9 6 := by unfold sh; decide +kernel
theorem shl_65 : sh 65 4 6 := by unfold sh; decide +kernel
theorem shl_66 : sh 66 100 6 := by unfold sh; decide +kernel
theorem shl_67 : sh 67 100 6 := by unfold sh; decide +kernel
theorem shl_68 : sh 68 100 12 := by unfold sh; decide +kernel
theorem shl_69 : sh 69 5 5 := by unfold sh; decide +kernel
theorem shl_70 : sh 70 100 24 := by unfold sh; decide +kernel
theorem shl_71 : sh 71 100 24 := by unfold sh; decide +kernel
theorem shl_72 : sh 72 100 24 := by unfold sh; decide +kernel
theorem shl_73 : sh 73 100 24 := by unfold sh; decide +kernel
theorem shl_74 : sh 74 4 6 := by unfold sh; decide +kernel
theorem shl_75 : sh 75 100 6 := by unfold sh; decide +kernel
theorem shl_76 : sh 76 100 6 := by unfold sh; decide +kernel
theorem shl_77 : sh 77 100 12 := by unfold sh; decide +kernel
theorem shl_78 : sh 78 4 6 := by unfold sh; decide +kernel
theorem shl_79 : sh 79 100 6 := by unfold sh; decide +kernel
theorem shl_80 : sh 80 100 6 := by unfold sh; decide +kernel
theorem shl_81 : sh 81 100 12 := by unfold sh; decide +kernel
theorem shl_82 : sh 82 104 16 := by unfold sh; decide +kernel
theorem shl_83 : sh 83 4 6 := by unfold sh; decide +kernel
theorem shl_84 : sh 84 100 6 := by unfold sh; decide +kernel
theorem shl_85 : sh 85 100 6 := by unfold sh; decide +kernel
theorem shl_86 : sh 86 100 12 := by unfold sh; decide +kernel
theorem shl_87 : sh 87 4 6 := by unfold sh; decide +kernel
theorem shl_88 : sh 88 100 6 := by unfold sh; decide +kernel
theorem shl_89 : sh 89 100 6 := by unfold sh; decide +kernel
theorem shl_90 : sh 90 100 12 := by unfold sh; decide +kernel
theorem shl_91 : sh 91 4 6 := by unfold sh; decide +kernel
theorem shl_92 : sh 92 100 6 := by unfold sh; decide +kernel
theorem shl_93 : sh 93 100 6 := by unfold sh; decide +kernel
theorem shl_94 : sh 94 100 12 := by unfold sh; decide +kernel
theorem shl_95 : sh 95 4 6 := by unfold sh; decide +kernel
theorem shl_96 : sh 96 100 6 := by unfold sh; decide +kernel
theorem shl_97 : sh 97 100 6 := by unfold sh; decide +kernel
theorem shl_98 : sh 98 100 12 := by unfold sh; decide +kernel
theorem shl_99 : sh 99 4 6 := by unfold sh; decide +kernel
theorem shl_100 : sh 100 100 6 := by unfold sh; decide +kernel
theorem shl_101 : sh 101 100 6 := by unfold sh; decide +kernel
theorem shl_102 : sh 102 100 12 := by unfold sh; decide +kernel
theorem shl_103 : sh 103 4 6 := by unfold sh; decide +kernel
theorem shl_104 : sh 104 100 6 := by unfold sh; decide +kernel
theorem shl_105 : sh 105 100 6 := by unfold sh; decide +kernel
theorem shl_106 : sh 106 100 12 := by unfold sh; decide +kernel
theorem shl_107 : sh 107 4 6 := by unfold sh; decide +kernel
theorem shl_108 : sh 108 100 6 := by unfold sh; decide +kernel
theorem shl_109 : sh 109 100 6 := by unfold sh; decide +kernel
theorem shl_110 : sh 110 100 12 := by unfold sh; decide +kernel
theorem shl_111 : sh 111 4 6 := by unfold sh; decide +kernel
theorem shl_112 : sh 112 100 6 := by unfold sh; decide +kernel
theorem shl_113 : sh 113 100 6 := by unfold sh; decide +kernel
theorem shl_114 : sh 114 100 12 := by unfold sh; decide +kernel
theorem shl_115 : sh 115 4 6 := by unfold sh; decide +kernel
theorem shl_116 : sh 116 100 6 := by unfold sh; decide +kernel
theorem shl_117 : sh 117 100 6 := by unfold sh; decide +kernel
theorem shl_118 : sh 118 100 12 := by unfold sh; decide +kernel
theorem shl_119 : sh 119 4 6 := by unfold sh; decide +kernel
theorem shl_120 : sh 120 100 6 := by unfold sh; decide +kernel
theorem shl_121 : sh 121 100 6 := by unfold sh; decide +kernel
theorem shl_122 : sh 122 100 12 := by unfold sh; decide +kernel
theorem shl_123 : sh 123 4 6 := by unfold sh; decide +kernel
theorem shl_124 : sh 124 100 6 := by unfold sh; decide +kernel
theorem shl_125 : sh 125 100 6 := by unfold sh; decide +kernel
theorem shl_126 : sh 126 100 12 := by unfold sh; decide +kernel
theorem shl_127 : sh 127 4 6 := by unfold sh; decide +kernel
theorem shl_128 : sh 128 100 6 := by unfold sh; decide +kernel
theorem shl_129 : sh 129 100 6 := by unfold sh; decide +kernel
theorem shl_130 : sh 130 100 12 := by unfold sh; decide +kernel
theorem shl_131 : sh 131 4 6 := by unfold sh; decide +kernel
theorem shl_132 : sh 132 100 6 := by unfold sh; decide +kernel
theorem shl_133 : sh 133 100 6 := by unfold sh; decide +kernel
theorem shl_134 : sh 134 100 12 := by unfold sh; decide +kernel
theorem shl_135 : sh 135 4 6 := by unfold sh; decide +kernel
theorem shl_136 : sh 136 100 6 := by unfold sh; decide +kernel
theorem shl_137 : sh 137 100 6 := by unfold sh; decide +kernel
theorem shl_138 : sh 138 100 12 := by unfold sh; decide +kernel
theorem shl_139 : sh 139 4 6 := by unfold sh; decide +kernel
theorem shl_140 : sh 140 100 6 := by unfold sh; decide +kernel
theorem shl_141 : sh 141 100 6 := by unfold sh; decide +kernel
theorem shl_142 : sh 142 100 12 := by unfold sh; decide +kernel
theorem shl_143 : sh 143 4 6 := by unfold sh; decide +kernel
theorem shl_144 : sh 144 100 6 := by unfold sh; decide +kernel
theorem shl_145 : sh 145 100 6 := by unfold sh; decide +kernel
theorem shl_146 : sh 146 100 12 := by unfold sh; decide +kernel
theorem shl_147 : sh 147 105 4 := by unfold sh; decide +kernel
theorem shl_148 : sh 148 9 6 := by unfold sh; decide +kernel
theorem shl_149 : sh 149 4 6 := by unfold sh; decide +kernel
theorem shl_150 : sh 150 100 6 := by unfold sh; decide +kernel
theorem shl_151 : sh 151 100 6 := by unfold sh; decide +kernel
theorem shl_152 : sh 152 100 12 := by unfold sh; decide +kernel
theorem shl_153 : sh 153 5 5 := by unfold sh; decide +kernel
theorem shl_154 : sh 154 100 24 := by unfold sh; decide +kernel
theorem shl_155 : sh 155 100 24 := by unfold sh; decide +kernel
theorem shl_156 : sh 156 100 24 := by unfold sh; decide +kernel
theorem shl_157 : sh 157 100 24 := by unfold sh; decide +kernel
theorem shl_158 : sh 158 9 6 := by unfold sh; decide +kernel
theorem shl_159 : sh 159 4 6 := by unfold sh; decide +kernel
theorem shl_160 : sh 160 100 6 := by unfold sh; decide +kernel
theorem shl_161 : sh 161 100 6 := by unfold sh; decide +kernel
theorem shl_162 : sh 162 100 12 := by unfold sh; decide +kernel
theorem shl_163 : sh 163 5 5 := by unfold sh; decide +kernel
theorem shl_164 : sh 164 100 24 := by unfold sh; decide +kernel
theorem shl_165 : sh 165 100 24 := by unfold sh; decide +kernel
theorem shl_166 : sh 166 100 24 := by unfold sh; decide +kernel
theorem shl_167 : sh 167 100 24 := by unfold sh; decide +kernel
theorem shl_168 : sh 168 9 6 := by unfold sh; decide +kernel
theorem shl_169 : sh 169 4 6 := by unfold sh; decide +kernel
theorem shl_170 : sh 170 100 6 := by unfold sh; decide +kernel
theorem shl_171 : sh 171 100 6 := by unfold sh; decide +kernel
theorem shl_172 : sh 172 100 12 := by unfold sh; decide +kernel
theorem shl_173 : sh 173 5 5 := by unfold sh; decide +kernel
theorem shl_174 : sh 174 100 24 := by unfold sh; decide +kernel
theorem shl_175 : sh 175 100 24 := by unfold sh; decide +kernel
theorem shl_176 : sh 176 100 24 := by unfold sh; decide +kernel
theorem shl_177 : sh 177 100 24 := by unfold sh; decide +kernel
theorem shl_178 : sh 178 9 6 := by unfold sh; decide +kernel
theorem shl_179 : sh 179 4 6 := by unfold sh; decide +kernel
theorem shl_180 : sh 180 100 6 := by unfold sh; decide +kernel
theorem shl_181 : sh 181 100 6 := by unfold sh; decide +kernel
theorem shl_182 : sh 182 100 12 := by unfold sh; decide +kernel
theorem shl_183 : sh 183 5 5 := by unfold sh; decide +kernel
theorem shl_184 : sh 184 100 24 := by unfold sh; decide +kernel
theorem shl_185 : sh 185 100 24 := by unfold sh; decide +kernel
theorem shl_186 : sh 186 100 24 := by unfold sh; decide +kernel
theorem shl_187 : sh 187 100 24 := by unfold sh; decide +kernel
theorem shl_188 : sh 188 100 5 := by unfold sh; decide +kernel
theorem shl_189 : sh 189 1 4 := by unfold sh; decide +kernel
theorem shl_190 : sh 190 100 64 := by unfold sh; decide +kernel
theorem shl_191 : sh 191 103 2048 := by unfold sh; decide +kernel
theorem shl_192 : sh 192 100 32 := by unfold sh; decide +kernel
theorem shl_193 : sh 193 8 9 := by unfold sh; decide +kernel
theorem shl_194 : sh 194 100 3 := by unfold sh; decide +kernel
theorem shl_195 : sh 195 100 39 := by unfold sh; decide +kernel
theorem shl_196 : sh 196 103 39 := by unfold sh; decide +kernel
theorem shl_197 : sh 197 100 12 := by unfold sh; decide +kernel
theorem shl_198 : sh 198 2 9 := by unfold sh; decide +kernel
theorem shl_199 : sh 199 100 12 := by unfold sh; decide +kernel
theorem shl_200 : sh 200 101 12 := by unfold sh; decide +kernel
theorem shl_201 : sh 201 100 4 := by unfold sh; decide +kernel
theorem shl_202 : sh 202 100 4 := by unfold sh; decide +kernel
theorem shl_203 : sh 203 12 68 := by unfold sh; decide +kernel
theorem shl_204 : sh 204 100 1000 := by unfold sh; decide +kernel
theorem shl_205 : sh 205 100 12 := by unfold sh; decide +kernel
theorem shl_206 : sh 206 101 24 := by unfold sh; decide +kernel
theorem shl_207 : sh 207 101 24 := by unfold sh; decide +kernel
theorem shl_208 : sh 208 101 12 := by unfold sh; decide +kernel
theorem shl_209 : sh 209 101 10 := by unfold sh; decide +kernel
theorem shl_210 : sh 210 100 24 := by unfold sh; decide +kernel
theorem shl_211 : sh 211 100 24 := by unfold sh; decide +kernel
theorem shl_212 : sh 212 100 24 := by unfold sh; decide +kernel
theorem shl_213 : sh 213 100 24 := by unfold sh; decide +kernel
theorem shl_214 : sh 214 100 24 := by unfold sh; decide +kernel
theorem shl_215 : sh 215 100 24 := by unfold sh; decide +kernel
theorem shl_216 : sh 216 100 12 := by unfold sh; decide +kernel
theorem shl_217 : sh 217 100 12 := by unfold sh; decide +kernel
theorem shl_218 : sh 218 100 12 := by unfold sh; decide +kernel
theorem shl_219 : sh 219 100 10 := by unfold sh; decide +kernel
theorem shl_220 : sh 220 100 10 := by unfold sh; decide +kernel
theorem shl_221 : sh 221 100 4 := by unfold sh; decide +kernel
theorem shl_222 : sh 222 100 4 := by unfold sh; decide +kernel
theorem shl_223 : sh 223 100 2000 := by unfold sh; decide +kernel
theorem shl_224 : sh 224 100 7 := by unfold sh; decide +kernel
theorem shl_225 : sh 225 103 7 := by unfold sh; decide +kernel
theorem shl_226 : sh 226 100 7 := by unfold sh; decide +kernel
theorem shl_227 : sh 227 100 7 := by unfold sh; decide +kernel
theorem shl_228 : sh 228 100 7 := by unfold sh; decide +kernel
theorem shl_229 : sh 229 100 7 := by unfold sh; decide +kernel
theorem shl_230 : sh 230 100 7 := by unfold sh; decide +kernel
theorem shl_231 : sh 231 100 7 := by unfold sh; decide +kernel
theorem shl_232 : sh 232 100 7 := by unfold sh; decide +kernel
theorem shl_233 : sh 233 100 7 := by unfold sh; decide +kernel
theorem shl_234 : sh 234 100 7 := by unfold sh; decide +kernel
theorem shl_235 : sh 235 100 20 := by unfold sh; decide +kernel
theorem shl_236 : sh 236 100 6 := by unfold sh; decide +kernel
theorem shl_237 : sh 237 100 576 := by unfold sh; decide +kernel
theorem shl_238 : sh 238 100 6 := by unfold sh; decide +kernel
theorem shl_239 : sh 239 100 72 := by unfold sh; decide +kernel
theorem shl_240 : sh 240 103 72 := by unfold sh; decide +kernel
theorem shl_241 : sh 241 100 27 := by unfold sh; decide +kernel
theorem shl_242 : sh 242 100 54 := by unfold sh; decide +kernel
theorem shl_243 : sh 243 100 108 := by unfold sh; decide +kernel
theorem shl_244 : sh 244 100 432 := by unfold sh; decide +kernel
theorem shl_245 : sh 245 103 4 := by unfold sh; decide +kernel
theorem shl_246 : sh 246 103 2048 := by unfold sh; decide +kernel
theorem shl_247 : sh 247 100 32 := by unfold sh; decide +kernel
theorem shl_248 : sh 248 100 5 := by unfold sh; decide +kernel
theorem shl_249 : sh 249 100 3 := by unfold sh; decide +kernel
theorem shl_250 : sh 250 100 3 := by unfold sh; decide +kernel
theorem shl_251 : sh 251 100 3 := by unfold sh; decide +kernel
theorem shl_252 : sh 252 100 4 := by unfold sh; decide +kernel
theorem shl_253 : sh 253 100 4 := by unfold sh; decide +kernel
theorem shl_254 : sh 254 101 12 := by unfold sh; decide +kernel
theorem shl_255 : sh 255 101 1 := by unfold sh; decide +kernel
theorem sh_0_1 {a : Nat} (ha : sh a 0 3) : sh (a + 1) 100 1000 := sh_all 1 100 1000 (by decide +kernel) ha
theorem sh_0_2 {a : Nat} (ha : sh a 0 3) : sh (a + 2) 100 64 := sh_all 2 100 64 (by decide +kernel) ha
theorem sh_3_1 {a : Nat} (ha : sh a 3 19) : sh (a + 1) 6 3 := sh_all 1 6 3 (by decide +kernel) ha
theorem sh_3_3 {a : Nat} (ha : sh a 3 19) : sh (a + 3) 6 3 := sh_all 3 6 3 (by decide +kernel) ha
theorem sh_3_5 {a : Nat} (ha : sh a 3 19) : sh (a + 5) 6 3 := sh_all 5 6 3 (by decide +kernel) ha
theorem sh_3_7 {a : Nat} (ha : sh a 3 19) : sh (a + 7) 6 3 := sh_all 7 6 3 (by decide +kernel) ha
theorem sh_3_9 {a : Nat} (ha : sh a 3 19) : sh (a + 9) 100 12 := sh_all 9 100 12 (by decide +kernel) ha
theorem sh_3_10 {a : Nat} (ha : sh a 3 19) : sh (a + 10) 100 12 := sh_all 10 100 12 (by decide +kernel) ha
theorem sh_3_11 {a : Nat} (ha : sh a 3 19) : sh (a + 11) 100 12 := sh_all 11 100 12 (by decide +kernel) ha
theorem sh_3_12 {a : Nat} (ha : sh a 3 19) : sh (a + 12) 100 12 := sh_all 12 100 12 (by decide +kernel) ha
theorem sh_3_13 {a : Nat} (ha : sh a 3 19) : sh (a + 13) 100 12 := sh_all 13 100 12 (by decide +kernel) ha
theorem sh_3_14 {a : Nat} (ha : sh a 3 19) : sh (a + 14) 100 12 := sh_all 14 100 12 (by decide +kernel) ha
theorem sh_3_15 {a : Nat} (ha : sh a 3 19) : sh (a + 15) 100 6 := sh_all 15 100 6 (by decide +kernel) ha
theorem sh_3_16 {a : Nat} (ha : sh a 3 19) : sh (a + 16) 100 6 := sh_all 16 100 6 (by decide +kernel) ha
theorem sh_3_17 {a : Nat} (ha : sh a 3 19) : sh (a + 17) 100 6 := sh_all 17 100 6 (by decide +kernel) ha
theorem sh_3_18 {a : Nat} (ha : sh a 3 19) : sh (a + 18) 100 5 := sh_all 18 100 5 (by decide +kernel) ha
theorem sh_3_19 {a : Nat} (ha : sh a 3 19) : sh (a + 19) 100 5 := sh_all 19 100 5 (by decide +kernel) ha
theorem sh_3_20 {a : Nat} (ha : sh a 3 19) : sh (a + 20) 0 3 := sh_all 20 0 3 (by decide +kernel) ha
theorem sh_3_23 {a : Nat} (ha : sh a 3 19) : sh (a + 23) 0 3 := sh_all 23 0 3 (by decide +kernel) ha
theorem sh_4_1 {a : Nat} (ha : sh a 4 6) : sh (a + 1) 100 6 := sh_all 1 100 6 (by decide +kernel) ha
theorem sh_4_2 {a : Nat} (ha : sh a 4 6) : sh (a + 2) 100 6 := sh_all 2 100 6 (by decide +kernel) ha
theorem sh_4_3 {a : Nat} (ha : sh a 4 6) : sh (a + 3) 100 12 := sh_all 3 100 12 (by decide +kernel) ha
theorem sh_5_1 {a : Nat} (ha : sh a 5 5) : sh (a + 1) 100 24 := sh_all 1 100 24 (by decide +kernel) ha
theorem sh_5_2 {a : Nat} (ha : sh a 5 5) : sh (a + 2) 100 24 := sh_all 2 100 24 (by decide +kernel) ha
theorem sh_5_3 {a : Nat} (ha : sh a 5 5) : sh (a + 3) 100 24 := sh_all 3 100 24 (by decide +kernel) ha
theorem sh_5_4 {a : Nat} (ha : sh a 5 5) : sh (a + 4) 100 24 := sh_all 4 100 24 (by decide +kernel) ha
theorem sh_6_1 {a : Nat} (ha : sh a 6 3) : sh (a + 1) 101 12 := sh_all 1 101 12 (by decide +kernel) ha
theorem sh_9_1 {a : Nat} (ha : sh a 9 6) : sh (a + 1) 4 6 := sh_all 1 4 6 (by decide +kernel) ha
theorem sh_9_5 {a : Nat} (ha : sh a 9 6) : sh (a + 5) 5 5 := sh_all 5 5 5 (by decide +kernel) ha
theorem fr_0_0_0 {a : Nat} (ha : sh a 0 3) : am_fr (a) 0 = a + 1 := fr_all 0 0 1 (by decide +kernel) ha
theorem fr_0_0_1 {a : Nat} (ha : sh a 0 3) : am_fr (a) 1 = a + 2 := fr_all 0 1 2 (by decide +kernel) ha
theorem fr_3_0_0 {a : Nat} (ha : sh a 3 19) : am_fr (a) 0 = a + 1 := fr_all 0 0 1 (by decide +kernel) ha
theorem fr_3_0_1 {a : Nat} (ha : sh a 3 19) : am_fr (a) 1 = a + 3 := fr_all 0 1 3 (by decide +kernel) ha
theorem fr_3_0_2 {a : Nat} (ha : sh a 3 19) : am_fr (a) 2 = a + 5 := fr_all 0 2 5 (by decide +kernel) ha
theorem fr_3_0_3 {a : Nat} (ha : sh a 3 19) : am_fr (a) 3 = a + 7 := fr_all 0 3 7 (by decide +kernel) ha
theorem fr_3_0_4 {a : Nat} (ha : sh a 3 19) : am_fr (a) 4 = a + 9 := fr_all 0 4 9 (by decide +kernel) ha
theorem fr_3_0_5 {a : Nat} (ha : sh a 3 19) : am_fr (a) 5 = a + 10 := fr_all 0 5 10 (by decide +kernel) ha
theorem fr_3_0_6 {a : Nat} (ha : sh a 3 19) : am_fr (a) 6 = a + 11 := fr_all 0 6 11 (by decide +kernel) ha
theorem fr_3_0_7 {a : Nat} (ha : sh a 3 19) : am_fr (a) 7 = a + 12 := fr_all 0 7 12 (by decide +kernel) ha
theorem fr_3_0_8 {a : Nat} (ha : sh a 3 19) : am_fr (a) 8 = a + 13 := fr_all 0 8 13 (by decide +kernel) ha
theorem fr_3_0_9 {a : Nat} (ha : sh a 3 19) : am_fr (a) 9 = a + 14 := fr_all 0 9 14 (by decide +kernel) ha
theorem fr_3_0_10 {a : Nat} (ha : sh a 3 19) : am_fr (a) 10 = a + 15 := fr_all 0 10 15 (by decide +kernel) ha
theorem fr_3_0_11 {a : Nat} (ha : sh a 3 19) : am_fr (a) 11 = a + 16 := fr_all 0 11 16 (by decide +kernel) ha
theorem fr_3_0_12 {a : Nat} (ha : sh a 3 19) : am_fr (a) 12 = a + 17 := fr_all 0 12 17 (by decide +kernel) ha
theorem fr_3_0_13 {a : Nat} (ha : sh a 3 19) : am_fr (a) 13 = a + 18 := fr_all 0 13 18 (by decide +kernel) ha
theorem fr_3_0_14 {a : Nat} (ha : sh a 3 19) : am_fr (a) 14 = a + 19 := fr_all 0 14 19 (by decide +kernel) ha
theorem fr_3_0_15 {a : Nat} (ha : sh a 3 19) : am_fr (a) 15 = a + 20 := fr_all 0 15 20 (by decide +kernel) ha
theorem fr_3_0_16 {a : Nat} (ha : sh a 3 19) : am_fr (a) 16 = a + 23 := fr_all 0 16 23 (by decide +kernel) ha
theorem fr_4_0_0 {a : Nat} (ha : sh a 4 6) : am_fr (a) 0 = a + 1 := fr_all 0 0 1 (by decide +kernel) ha
theorem fr_4_0_1 {a : Nat} (ha : sh a 4 6) : am_fr (a) 1 = a + 2 := fr_all 0 1 2 (by decide +kernel) ha
theorem fr_4_0_2 {a : Nat} (ha : sh a 4 6) : am_fr (a) 2 = a + 3 := fr_all 0 2 3 (by decide +kernel) ha
theorem fr_5_0_0 {a : Nat} (ha : sh a 5 5) : am_fr (a) 0 = a + 1 := fr_all 0 0 1 (by decide +kernel) ha
theorem fr_5_0_1 {a : Nat} (ha : sh a 5 5) : am_fr (a) 1 = a + 2 := fr_all 0 1 2 (by decide +kernel) ha
theorem fr_5_0_2 {a : Nat} (ha : sh a 5 5) : am_fr (a) 2 = a + 3 := fr_all 0 2 3 (by decide +kernel) ha
theorem fr_5_0_3 {a : Nat} (ha : sh a 5 5) : am_fr (a) 3 = a + 4 := fr_all 0 3 4 (by decide +kernel) ha
theorem fr_6_0_0 {a : Nat} (ha : sh a 6 3) : am_fr (a) 0 = a + 1 := fr_all 0 0 1 (by decide +kernel) ha
theorem fr_9_0_0 {a : Nat} (ha : sh a 9 6) : am_fr (a) 0 = a + 1 := fr_all 0 0 1 (by decide +kernel) ha
theorem fr_9_0_1 {a : Nat} (ha : sh a 9 6) : am_fr (a) 1 = a + 5 := fr_all 0 1 5 (by decide +kernel) ha
