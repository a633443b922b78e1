theorem zt_0 : okTo 0 = true := by decide +kernel
theorem zt_1 : okTo 1 = true := by decide +kernel
theorem zt_2 : okTo 2 = true := by decide +kernel
theorem zt_3 : okTo 3 = true := by decide +kernel
theorem zt_4 : okTo 4 = true := by decide +kernel
theorem zt_5 : okTo 5 = true := by decide +kernel
theorem zt_6 : okTo 6 = true := by decide +kernel
theorem zt_7 : okTo 7 = true := by decide +kernel
theorem zt_8 : okTo 8 = true := by decide +kernel
theorem zt_9 : okTo 9 = true := by decide +kernel
theorem zt_10 : okTo 10 = true := by decide +kernel
theorem zt_11 : okTo 11 = true := by decide +kernel
theorem zt_12 : okTo 12 = true := by decide +kernel
theorem zt_13 : okTo 13 = true := by decide +kernel
theorem zt_14 : okTo 14 = true := by decide +kernel
theorem zt_15 : okTo 15 = true := by decide +kernel
theorem zt_16 : okTo 16 = true := by decide +kernel
theorem zt_17 : okTo 17 = true := by decide +kernel
theorem zt_18 : okTo 18 = true := by decide +kernel
theorem zt_19 : okTo 19 = true := by decide +kernel
theorem zt_20 : okTo 20 = true := by decide +kernel
theorem zt_21 : okTo 21 = true := by decide +kernel
theorem zt_22 : okTo 22 = true := by decide +kernel
theorem zt_23 : okTo 23 = true := by decide +kernel
theorem zt_24 : okTo 24 = true := by decide +kernel
theorem zt_25 : okTo 25 = true := by decide +kernel
theorem zt_26 : okTo 26 = true := by decide +kernel
theorem zt_27 : okTo 27 = true := by decide +kernel
theorem zt_28 : okTo 28 = true := by decide +kernel
theorem zt_29 : okTo 29 = true := by decide +kernel
theorem zt_30 : okTo 30 = true := by decide +kernel
theorem zt_31 : okTo 31 = true := by decide +kernel
theorem zt_32 : okTo 32 = true := by decide +kernel
theorem zt_33 : okTo 33 = true := by decide +kernel
theorem zt_34 : okTo 34 = true := by decide +kernel
theorem zt_35 : okTo 35 = true := by decide +kernel
theorem zt_36 : okTo 36 = true := by decide +kernel
theorem zt_37 : okTo 37 = true := by decide +kernel
theorem zt_38 : okTo 38 = true := by decide +kernel
theorem zt_39 : okTo 39 = true := by decide +kernel
theorem zt_40 : okTo 40 = true := by decide +kernel
theorem zt_41 : okTo 41 = true := by decide +kernel
theorem zt_42 : okTo 42 = true := by decide +kernel
theorem zt_43 : okTo 43 = true := by decide +kernel
theorem zt_44 : okTo 44 = true := by decide +kernel
theorem zt_45 : okTo 45 = true := by decide +kernel
theorem zt_46 : okTo 46 = true := by decide +kernel
theorem zt_47 : okTo 47 = true := by decide +kernel
theorem zt_48 : okTo 48 = true := by decide +kernel
theorem zt_49 : okTo 49 = true := by decide +kernel
theorem zt_50 : okTo 50 = true := by decide +kernel
theorem zt_51 : okTo 51 = true := by decide +kernel
theorem zt_52 : okTo 52 = true := by decide +kernel
theorem zt_53 : okTo 53 = true := by decide +kernel
theorem zt_54 : okTo 54 = true := by decide +kernel
theorem zt_55 : okTo 55 = true := by decide +kernel
theorem zt_56 : okTo 56 = true := by decide +kernel
theorem zt_57 : okTo 57 = true := by decide +kernel
theorem zt_58 : okTo 58 = true := by decide +kernel
theorem zt_59 : okTo 59 = true := by decide +kernel
theorem zt_60 : okTo 60 = true := by decide +kernel
theorem zt_61 : okTo 61 = true := by decide +kernel
theorem zt_62 : okTo 62 = true := by decide +kernel
theorem zt_63 : okTo 63 = true := by decide +kernel
theorem zt_64 : okTo 64 = true := by decide +kernel
theorem zt_65 : okTo 65 = true := by decide +kernel
theorem zt_66 : okTo 66 = true := by decide +kernel
theorem zt_67 : okTo 67 = true := by decide +kernel
theorem zt_68 : okTo 68 = true := by decide +kernel
theorem zt_69 : okTo 69 = true := by decide +kernel
theorem zt_70 : okTo 70 = true := by decide +kernel
theorem zt_71 : okTo 71 = true := by decide +kernel
theorem zt_72 : okTo 72 = true := by decide +kernel
theorem zt_73 : okTo 73 = true := by decide +kernel
theorem zt_74 : okTo 74 = true := by decide +kernel
theorem zt_75 : okTo 75 = true := by decide +kernel
theorem zt_76 : okTo 76 = true := by decide +kernel
theorem zt_77 : okTo 77 = true := by decide +kernel
theorem zt_78 : okTo 78 = true := by decide +kernel
theorem zt_79 : okTo 79 = true := by decide +kernel
theorem zt_80 : okTo 80 = true := by decide +kernel
theorem zt_81 : okTo 81 = true := by decide +kernel
theorem zt_82 : okTo 82 = true := by decide +kernel
theorem zt_83 : okTo 83 = true := by decide +kernel
theorem zt_84 : okTo 84 = true := by decide +kernel
theorem zt_85 : okTo 85 = true := by decide +kernel
theorem zt_86 : okTo 86 = true := by decide +kernel
theorem zt_87 : okTo 87 = true := by decide +kernel
theorem zt_88 : okTo 88 = true := by decide +kernel
theorem zt_89 : okTo 89 = true := by decide +kernel
theorem zt_90 : okTo 90 = true := by decide +kernel
theorem zt_91 : okTo 91 = true := by decide +kernel
theorem zt_92 : okTo 92 = true := by decide +kernel
theorem zt_93 : okTo 93 = true := by decide +kernel
theorem zt_94 : okTo 94 = true := by decide +kernel
theorem zt_95 : okTo 95 = true := by decide +kernel
theorem zt_96 : okTo 96 = true := by decide +kernel
theorem zt_97 : okTo 97 = true := by decide +kernel
theorem zt_98 : okTo 98 = true := by decide +kernel
theorem zt_99 : okTo 99 = true := by decide +kernel
theorem zt_100 : okTo 100 = true := by decide +kernel
theorem zt_101 : okTo 101 = true := by decide +kernel
theorem zt_102 : okTo 102 = true := by decide +kernel
theorem zt_103 : okTo 103 = true := by decide +kernel
theorem zt_104 : okTo 104 = true := by decide +kernel
theorem zt_105 : okTo 105 = true := by decide +kernel
theorem zt_106 : okTo 106 = true := by decide +kernel
theorem zt_107 : okTo 107 = true := by decide +kernel
theorem zt_108 : okTo 108 = true := by decide +kernel
theorem zt_109 : okTo 109 = true := by decide +kernel
theorem zt_110 : okTo 110 = true := by decide +kernel
theorem zt_111 : okTo 111 = true := by decide +kernel
theorem zt_112 : okTo 112 = true := by decide +kernel
theorem zt_113 : okTo 113 = true := by decide +kernel
theorem zt_114 : okTo 114 = true := by decide +kernel
theorem zt_115 : okTo 115 = true := by decide +kernel
theorem zt_116 : okTo 116 = true := by decide +kernel
theorem zt_117 : okTo 117 = true := by decide +kernel
theorem zt_118 : okTo 118 = true := by decide +kernel
theorem zt_119 : okTo 119 = true := by decide +kernel
theorem zt_120 : okTo 120 = true := by decide +kernel
theorem zt_121 : okTo 121 = true := by decide +kernel
theorem zt_122 : okTo 122 = true := by decide +kernel
theorem zt_123 : okTo 123 = true := by decide +kernel
theorem zt_124 : okTo 124 = true := by decide +kernel
theorem zt_125 : okTo 125 = true := by decide +kernel
theorem zt_126 : okTo 126 = true := by decide +kernel
theorem zt_127 : okTo 127 = true := by decide +kernel
theorem zt_128 : okTo 128 = true := by decide +kernel
theorem zt_129 : okTo 129 = true := by decide +kernel
theorem zt_130 : okTo 130 = true := by decide +kernel
theorem zt_131 : okTo 131 = true := by decide +kernel
theorem zt_132 : okTo 132 = true := by decide +kernel
theorem zt_133 : okTo 133 = true := by decide +kernel
theorem zt_134 : okTo 134 = true := by decide +kernel
theorem zt_135 : okTo 135 = true := by decide +kernel
theorem zt_136 : okTo 136 = true := by decide +kernel
theorem zt_137 : okTo 137 = true := by decide +kernel
theorem zt_138 : okTo 138 = true := by decide +kernel
theorem zt_139 : okTo 139 = true := by decide +kernel
theorem zt_140 : okTo 140 = true := by decide +kernel
theorem zt_141 : okTo 141 = true := by decide +kernel
theorem zt_142 : okTo 142 = true := by decide +kernel
theorem zt_143 : okTo 143 = true := by decide +kernel
theorem zt_144 : okTo 144 = true := by decide +kernel
theorem zt_145 : okTo 145 = true := by decide +kernel
theorem zt_146 : okTo 146 = true := by decide +kernel
theorem zt_147 : okTo 147 = true := by decide +kernel
theorem zt_148 : okTo 148 = true := by decide +kernel
theorem zt_149 : okTo 149 = true := by decide +kernel
theorem zt_150 : okTo 150 = true := by decide +kernel
theorem zt_151 : okTo 151 = true := by decide +kernel
theorem zt_152 : okTo 152 = true := by decide +kernel
theorem zt_153 : okTo 153 = true := by decide +kernel
theorem zt_154 : okTo 154 = true := by decide +kernel
theorem zt_155 : okTo 155 = true := by decide +kernel
theorem zt_156 : okTo 156 = true := by decide +kernel
theorem zt_157 : okTo 157 = true := by decide +kernel
theorem zt_158 : okTo 158 = true := by decide +kernel
theorem zt_159 : okTo 159 = true := by decide +kernel
theorem zt_160 : okTo 160 = true := by decide +kernel
theorem zt_161 : okTo 161 = true := by decide +kernel
theorem zt_162 : okTo 162 = true := by decide +kernel
theorem zt_163 : okTo 163 = true := by decide +kernel
theorem zt_164 : okTo 164 = true := by decide +kernel
theorem zt_165 : okTo 165 = true := by decide +kernel
theorem zt_166 : okTo 166 = true := by decide +kernel
theorem zt_167 : okTo 167 = true := by decide +kernel
theorem zt_168 : okTo 168 = true := by decide +kernel
theorem zt_169 : okTo 169 = true := by decide +kernel
theorem zt_170 : okTo 170 = true := by decide +kernel
theorem zt_171 : okTo 171 = true := by decide +kernel
theorem zt_172 : okTo 172 = true := by decide +kernel
theorem zt_173 : okTo 173 = true := by decide +kernel
theorem zt_174 : okTo 174 = true := by decide +kernel
theorem zt_175 : okTo 175 = true := by decide +kernel
theorem zt_176 : okTo 176 = true := by decide +kernel
theorem zt_177 : okTo 177 = true := by decide +kernel
theorem zt_178 : okTo 178 = true := by decide +kernel
theorem zt_179 : okTo 179 = true := by decide +kernel
theorem zt_180 : okTo 180 = true := by decide +kernel
theorem zt_181 : okTo 181 = true := by decide +kernel
theorem zt_182 : okTo 182 = true := by decide +kernel
theorem zt_183 : okTo 183 = true := by decide +kernel
theorem zt_184 : okTo 184 = true := by decide +kernel
theorem zt_185 : okTo 185 = true := by decide +kernel
theorem zt_186 : okTo 186 = true := by decide +kernel
theorem zt_187 : okTo 187 = true := by decide +kernel
theorem zt_188 : okTo 188 = true := by decide +kernel
theorem zt_189 : okTo 189 = true := by decide +kernel
theorem zt_190 : okTo 190 = true := by decide +kernel
theorem zt_191 : okTo 191 = true := by decide +kernel
theorem zt_192 : okTo 192 = true := by decide +kernel
theorem zt_193 : okTo 193 = true := by decide +kernel
theorem zt_194 : okTo 194 = true := by decide +kernel
theorem zt_195 : okTo 195 = true := by decide +kernel
theorem zt_196 : okTo 196 = true := by decide +kernel
theorem zt_197 : okTo 197 = true := by decide +kernel
theorem zt_198 : okTo 198 = true := by decide +kernel
theorem zt_199 : okTo 199 = true := by decide +kernel
theorem zt_200 : okTo 200 = true := by decide +kernel
theorem zt_201 : okTo 201 = true := by decide +kernel
theorem zt_202 : okTo 202 = true := by decide +kernel
theorem zt_203 : okTo 203 = true := by decide +kernel
theorem zt_204 : okTo 204 = true := by decide +kernel
theorem zt_205 : okTo 205 = true := by decide +kernel
theorem zt_206 : okTo 206 = true := by decide +kernel
theorem zt_207 : okTo 207 = true := by decide +kernel
theorem zt_208 : okTo 208 = true := by decide +kernel
theorem zt_209 : okTo 209 = true := by decide +kernel
theorem zt_210 : okTo 210 = true := by decide +kernel
theorem zt_211 : okTo 211 = true := by decide +kernel
theorem zt_212 : okTo 212 = true := by decide +kernel
theorem zt_213 : okTo 213 = true := by decide +kernel
theorem zt_214 : okTo 214 = true := by decide +kernel
theorem zt_215 : okTo 215 = true := by decide +kernel
theorem zt_216 : okTo 216 = true := by decide +kernel
theorem zt_217 : okTo 217 = true := by decide +kernel
theorem zt_218 : okTo 218 = true := by decide +kernel
theorem zt_219 : okTo 219 = true := by decide +kernel
theorem zt_220 : okTo 220 = true := by decide +kernel
theorem zt_221 : okTo 221 = true := by decide +kernel
theorem zt_222 : okTo 222 = true := by decide +kernel
theorem zt_223 : okTo 223 = true := by decide +kernel
theorem zt_224 : okTo 224 = true := by decide +kernel
theorem zt_225 : okTo 225 = true := by decide +kernel
theorem zt_226 : okTo 226 = true := by decide +kernel
theorem zt_227 : okTo 227 = true := by decide +kernel
theorem zt_228 : okTo 228 = true := by decide +kernel
theorem zt_229 : okTo 229 = true := by decide +kernel
theorem zt_230 : okTo 230 = true := by decide +kernel
theorem zt_231 : okTo 231 = true := by decide +kernel
theorem zt_232 : okTo 232 = true := by decide +kernel
theorem zt_233 : okTo 233 = true := by decide +kernel
theorem zt_234 : okTo 234 = true := by decide +kernel
theorem zt_235 : okTo 235 = true := by decide +kernel
theorem zt_236 : okTo 236 = true := by decide +kernel
theorem zt_237 : okTo 237 = true := by decide +kernel
theorem zt_238 : okTo 238 = true := by decide +kernel
theorem zt_239 : okTo 239 = true := by decide +kernel
theorem zt_240 : okTo 240 = true := by decide +kernel
theorem zt_241 : okTo 241 = true := by decide +kernel
theorem zt_242 : okTo 242 = true := by decide +kernel
theorem zt_243 : okTo 243 = true := by decide +kernel
theorem zt_244 : okTo 244 = true := by decide +kernel
theorem zt_245 : okTo 245 = true := by decide +kernel
theorem zt_246 : okTo 246 = true := by decide +kernel
theorem zt_247 : okTo 247 = true := by decide +kernel
theorem zk_t : ∀ k, k < 248 → okTo k = true := by
  intro k hk
  rcases Nat.lt_or_ge k 124 with h | h
  · rcases Nat.lt_or_ge k 62 with h | h
    · rcases Nat.lt_or_ge k 31 with h | h
      · rcases Nat.lt_or_ge k 15 with h | h
        · rcases Nat.lt_or_ge k 7 with h | h
          · rcases Nat.lt_or_ge k 3 with h | h
            · rcases Nat.lt_or_ge k 1 with h | h
              · obtain rfl : k = 0 := by omega
                exact zt_0
              · rcases Nat.lt_or_ge k 2 with h | h
                · obtain rfl : k = 1 := by omega
                  exact zt_1
                · obtain rfl : k = 2 := by omega
                  exact zt_2
            · rcases Nat.lt_or_ge k 5 with h | h
              · rcases Nat.lt_or_ge k 4 with h | h
                · obtain rfl : k = 3 := by omega
                  exact zt_3
                · obtain rfl : k = 4 := by omega
                  exact zt_4
              · rcases Nat.lt_or_ge k 6 with h | h
                · obtain rfl : k = 5 := by omega
                  exact zt_5
                · obtain rfl : k = 6 := by omega
                  exact zt_6
          · rcases Nat.lt_or_ge k 11 with h | h
            · rcases Nat.lt_or_ge k 9 with h | h
              · rcases Nat.lt_or_ge k 8 with h | h
                · obtain rfl : k = 7 := by omega
                  exact zt_7
                · obtain rfl : k = 8 := by omega
                  exact zt_8
              · rcases Nat.lt_or_ge k 10 with h | h
                · obtain rfl : k = 9 := by omega
                  exact zt_9
                · obtain rfl : k = 10 := by omega
                  exact zt_10
            · rcases Nat.lt_or_ge k 13 with h | h
              · rcases Nat.lt_or_ge k 12 with h | h
                · obtain rfl : k = 11 := by omega
                  exact zt_11
                · obtain rfl : k = 12 := by omega
                  exact zt_12
              · rcases Nat.lt_or_ge k 14 with h | h
                · obtain rfl : k = 13 := by omega
                  exact zt_13
                · obtain rfl : k = 14 := by omega
                  exact zt_14
        · rcases Nat.lt_or_ge k 23 with h | h
          · rcases Nat.lt_or_ge k 19 with h | h
            · rcases Nat.lt_or_ge k 17 with h | h
              · rcases Nat.lt_or_ge k 16 with h | h
                · obtain rfl : k = 15 := by omega
                  exact zt_15
                · obtain rfl : k = 16 := by omega
                  exact zt_16
              · rcases Nat.lt_or_ge k 18 with h | h
                · obtain rfl : k = 17 := by omega
                  exact zt_17
                · obtain rfl : k = 18 := by omega
                  exact zt_18
            · rcases Nat.lt_or_ge k 21 with h | h
              · rcases Nat.lt_or_ge k 20 with h | h
                · obtain rfl : k = 19 := by omega
                  exact zt_19
                · obtain rfl : k = 20 := by omega
                  exact zt_20
              · rcases Nat.lt_or_ge k 22 with h | h
                · obtain rfl : k = 21 := by omega
                  exact zt_21
                · obtain rfl : k = 22 := by omega
                  exact zt_22
          · rcases Nat.lt_or_ge k 27 with h | h
            · rcases Nat.lt_or_ge k 25 with h | h
              · rcases Nat.lt_or_ge k 24 with h | h
                · obtain rfl : k = 23 := by omega
                  exact zt_23
                · obtain rfl : k = 24 := by omega
                  exact zt_24
              · rcases Nat.lt_or_ge k 26 with h | h
                · obtain rfl : k = 25 := by omega
                  exact zt_25
                · obtain rfl : k = 26 := by omega
                  exact zt_26
            · rcases Nat.lt_or_ge k 29 with h | h
              · rcases Nat.lt_or_ge k 28 with h | h
                · obtain rfl : k = 27 := by omega
                  exact zt_27
                · obtain rfl : k = 28 := by omega
                  exact zt_28
              · rcases Nat.lt_or_ge k 30 with h | h
                · obtain rfl : k = 29 := by omega
                  exact zt_29
                · obtain rfl : k = 30 := by omega
                  exact zt_30
      · rcases Nat.lt_or_ge k 46 with h | h
        · rcases Nat.lt_or_ge k 38 with h | h
          · rcases Nat.lt_or_ge k 34 with h | h
            · rcases Nat.lt_or_ge k 32 with h | h
              · obtain rfl : k = 31 := by omega
                exact zt_31
              · rcases Nat.lt_or_ge k 33 with h | h
                · obtain rfl : k = 32 := by omega
                  exact zt_32
                · obtain rfl : k = 33 := by omega
                  exact zt_33
            · rcases Nat.lt_or_ge k 36 with h | h
              · rcases Nat.lt_or_ge k 35 with h | h
                · obtain rfl : k = 34 := by omega
                  exact zt_34
                · obtain rfl : k = 35 := by omega
                  exact zt_35
              · rcases Nat.lt_or_ge k 37 with h | h
                · obtain rfl : k = 36 := by omega
                  exact zt_36
                · obtain rfl : k = 37 := by omega
                  exact zt_37
          · rcases Nat.lt_or_ge k 42 with h | h
            · rcases Nat.lt_or_ge k 40 with h | h
              · rcases Nat.lt_or_ge k 39 with h | h
                · obtain rfl : k = 38 := by omega
                  exact zt_38
                · obtain rfl : k = 39 := by omega
                  exact zt_39
              · rcases Nat.lt_or_ge k 41 with h | h
                · obtain rfl : k = 40 := by omega
                  exact zt_40
                · obtain rfl : k = 41 := by omega
                  exact zt_41
            · rcases Nat.lt_or_ge k 44 with h | h
              · rcases Nat.lt_or_ge k 43 with h | h
                · obtain rfl : k = 42 := by omega
                  exact zt_42
                · obtain rfl : k = 43 := by omega
                  exact zt_43
              · rcases Nat.lt_or_ge k 45 with h | h
                · obtain rfl : k = 44 := by omega
                  exact zt_44
                · obtain rfl : k = 45 := by omega
                  exact zt_45
        · rcases Nat.lt_or_ge k 54 with h | h
          · rcases Nat.lt_or_ge k 50 with h | h
            · rcases Nat.lt_or_ge k 48 with h | h
              · rcases Nat.lt_or_ge k 47 with h | h
                · obtain rfl : k = 46 := by omega
                  exact zt_46
                · obtain rfl : k = 47 := by omega
                  exact zt_47
              · rcases Nat.lt_or_ge k 49 with h | h
                · obtain rfl : k = 48 := by omega
                  exact zt_48
                · obtain rfl : k = 49 := by omega
                  exact zt_49
            · rcases Nat.lt_or_ge k 52 with h | h
              · rcases Nat.lt_or_ge k 51 with h | h
                · obtain rfl : k = 50 := by omega
                  exact zt_50
                · obtain rfl : k = 51 := by omega
                  exact zt_51
              · rcases Nat.lt_or_ge k 53 with h | h
                · obtain rfl : k = 52 := by omega
                  exact zt_52
                · obtain rfl : k = 53 := by omega
                  exact zt_53
          · rcases Nat.lt_or_ge k 58 with h | h
            · rcases Nat.lt_or_ge k 56 with h | h
              · rcases Nat.lt_or_ge k 55 with h | h
                · obtain rfl : k = 54 := by omega
                  exact zt_54
                · obtain rfl : k = 55 := by omega
                  exact zt_55
              · rcases Nat.lt_or_ge k 57 with h | h
                · obtain rfl : k = 56 := by omega
                  exact zt_56
                · obtain rfl : k = 57 := by omega
                  exact zt_57
            · rcases Nat.lt_or_ge k 60 with h | h
              · rcases Nat.lt_or_ge k 59 with h | h
                · obtain rfl : k = 58 := by omega
                  exact zt_58
                · obtain rfl : k = 59 := by omega
                  exact zt_59
              · rcases Nat.lt_or_ge k 61 with h | h
                · obtain rfl : k = 60 := by omega
                  exact zt_60
                · obtain rfl : k = 61 := by omega
                  exact zt_61
    · rcases Nat.lt_or_ge k 93 with h | h
      · rcases Nat.lt_or_ge k 77 with h | h
        · rcases Nat.lt_or_ge k 69 with h | h
          · rcases Nat.lt_or_ge k 65 with h | h
            · rcases Nat.lt_or_ge k 63 with h | h
              · obtain rfl : k = 62 := by omega
                exact zt_62
              · rcases Nat.lt_or_ge k 64 with h | h
                · obtain rfl : k = 63 := by omega
                  exact zt_63
                · obtain rfl : k = 64 := by omega
                  exact zt_64
            · rcases Nat.lt_or_ge k 67 with h | h
              · rcases Nat.lt_or_ge k 66 with h | h
                · obtain rfl : k = 65 := by omega
                  exact zt_65
                · obtain rfl : k = 66 := by omega
                  exact zt_66
              · rcases Nat.lt_or_ge k 68 with h | h
                · obtain rfl : k = 67 := by omega
                  exact zt_67
                · obtain rfl : k = 68 := by omega
                  exact zt_68
          · rcases Nat.lt_or_ge k 73 with h | h
            · rcases Nat.lt_or_ge k 71 with h | h
              · rcases Nat.lt_or_ge k 70 with h | h
                · obtain rfl : k = 69 := by omega
                  exact zt_69
                · obtain rfl : k = 70 := by omega
                  exact zt_70
              · rcases Nat.lt_or_ge k 72 with h | h
                · obtain rfl : k = 71 := by omega
                  exact zt_71
                · obtain rfl : k = 72 := by omega
                  exact zt_72
            · rcases Nat.lt_or_ge k 75 with h | h
              · rcases Nat.lt_or_ge k 74 with h | h
                · obtain rfl : k = 73 := by omega
                  exact zt_73
                · obtain rfl : k = 74 := by omega
                  exact zt_74
              · rcases Nat.lt_or_ge k 76 with h | h
                · obtain rfl : k = 75 := by omega
                  exact zt_75
                · obtain rfl : k = 76 := by omega
                  exact zt_76
        · rcases Nat.lt_or_ge k 85 with h | h
          · rcases Nat.lt_or_ge k 81 with h | h
            · rcases Nat.lt_or_ge k 79 with h | h
              · rcases Nat.lt_or_ge k 78 with h | h
                · obtain rfl : k = 77 := by omega
                  exact zt_77
                · obtain rfl : k = 78 := by omega
                  exact zt_78
              · rcases Nat.lt_or_ge k 80 with h | h
                · obtain rfl : k = 79 := by omega
                  exact zt_79
                · obtain rfl : k = 80 := by omega
                  exact zt_80
            · rcases Nat.lt_or_ge k 83 with h | h
              · rcases Nat.lt_or_ge k 82 with h | h
                · obtain rfl : k = 81 := by omega
                  exact zt_81
                · obtain rfl : k = 82 := by omega
                  exact zt_82
              · rcases Nat.lt_or_ge k 84 with h | h
                · obtain rfl : k = 83 := by omega
                  exact zt_83
                · obtain rfl : k = 84 := by omega
                  exact zt_84
          · rcases Nat.lt_or_ge k 89 with h | h
            · rcases Nat.lt_or_ge k 87 with h | h
              · rcases Nat.lt_or_ge k 86 with h | h
                · obtain rfl : k = 85 := by omega
                  exact zt_85
                · obtain rfl : k = 86 := by omega
                  exact zt_86
              · rcases Nat.lt_or_ge k 88 with h | h
                · obtain rfl : k = 87 := by omega
                  exact zt_87
                · obtain rfl : k = 88 := by omega
                  exact zt_88
            · rcases Nat.lt_or_ge k 91 with h | h
              · rcases Nat.lt_or_ge k 90 with h | h
                · obtain rfl : k = 89 := by omega
                  exact zt_89
                · obtain rfl : k = 90 := by omega
                  exact zt_90
              · rcases Nat.lt_or_ge k 92 with h | h
                · obtain rfl : k = 91 := by omega
                  exact zt_91
                · obtain rfl : k = 92 := by omega
                  exact zt_92
      · rcases Nat.lt_or_ge k 108 with h | h
        · rcases Nat.lt_or_ge k 100 with h | h
          · rcases Nat.lt_or_ge k 96 with h | h
            · rcases Nat.lt_or_ge k 94 with h | h
              · obtain rfl : k = 93 := by omega
                exact zt_93
              · rcases Nat.lt_or_ge k 95 with h | h
                · obtain rfl : k = 94 := by omega
                  exact zt_94
                · obtain rfl : k = 95 := by omega
                  exact zt_95
            · rcases Nat.lt_or_ge k 98 with h | h
              · rcases Nat.lt_or_ge k 97 with h | h
                · obtain rfl : k = 96 := by omega
                  exact zt_96
                · obtain rfl : k = 97 := by omega
                  exact zt_97
              · rcases Nat.lt_or_ge k 99 with h | h
                · obtain rfl : k = 98 := by omega
                  exact zt_98
                · obtain rfl : k = 99 := by omega
                  exact zt_99
          · rcases Nat.lt_or_ge k 104 with h | h
            · rcases Nat.lt_or_ge k 102 with h | h
              · rcases Nat.lt_or_ge k 101 with h | h
                · obtain rfl : k = 100 := by omega
                  exact zt_100
                · obtain rfl : k = 101 := by omega
                  exact zt_101
              · rcases Nat.lt_or_ge k 103 with h | h
                · obtain rfl : k = 102 := by omega
                  exact zt_102
                · obtain rfl : k = 103 := by omega
                  exact zt_103
            · rcases Nat.lt_or_ge k 106 with h | h
              · rcases Nat.lt_or_ge k 105 with h | h
                · obtain rfl : k = 104 := by omega
                  exact zt_104
                · obtain rfl : k = 105 := by omega
                  exact zt_105
              · rcases Nat.lt_or_ge k 107 with h | h
                · obtain rfl : k = 106 := by omega
                  exact zt_106
                · obtain rfl : k = 107 := by omega
                  exact zt_107
        · rcases Nat.lt_or_ge k 116 with h | h
          · rcases Nat.lt_or_ge k 112 with h | h
            · rcases Nat.lt_or_ge k 110 with h | h
              · rcases Nat.lt_or_ge k 109 with h | h
                · obtain rfl : k = 108 := by omega
                  exact zt_108
                · obtain rfl : k = 109 := by omega
                  exact zt_109
              · rcases Nat.lt_or_ge k 111 with h | h
                · obtain rfl : k = 110 := by omega
                  exact zt_110
                · obtain rfl : k = 111 := by omega
                  exact zt_111
            · rcases Nat.lt_or_ge k 114 with h | h
              · rcases Nat.lt_or_ge k 113 with h | h
                · obtain rfl : k = 112 := by omega
                  exact zt_112
                · obtain rfl : k = 113 := by omega
                  exact zt_113
              · rcases Nat.lt_or_ge k 115 with h | h
                · obtain rfl : k = 114 := by omega
                  exact zt_114
                · obtain rfl : k = 115 := by omega
                  exact zt_115
          · rcases Nat.lt_or_ge k 120 with h | h
            · rcases Nat.lt_or_ge k 118 with h | h
              · rcases Nat.lt_or_ge k 117 with h | h
                · obtain rfl : k = 116 := by omega
                  exact zt_116
                · obtain rfl : k = 117 := by omega
                  exact zt_117
              · rcases Nat.lt_or_ge k 119 with h | h
                · obtain rfl : k = 118 := by omega
                  exact zt_118
                · obtain rfl : k = 119 := by omega
                  exact zt_119
            · rcases Nat.lt_or_ge k 122 with h | h
              · rcases Nat.lt_or_ge k 121 with h | h
                · obtain rfl : k = 120 := by omega
                  exact zt_120
                · obtain rfl : k = 121 := by omega
                  exact zt_121
              · rcases Nat.lt_or_ge k 123 with h | h
                · obtain rfl : k = 122 := by omega
                  exact zt_122
                · obtain rfl : k = 123 := by omega
                  exact zt_123
  · rcases Nat.lt_or_ge k 186 with h | h
    · rcases Nat.lt_or_ge k 155 with h | h
      · rcases Nat.lt_or_ge k 139 with h | h
        · rcases Nat.lt_or_ge k 131 with h | h
          · rcases Nat.lt_or_ge k 127 with h | h
            · rcases Nat.lt_or_ge k 125 with h | h
              · obtain rfl : k = 124 := by omega
                exact zt_124
              · rcases Nat.lt_or_ge k 126 with h | h
                · obtain rfl : k = 125 := by omega
                  exact zt_125
                · obtain rfl : k = 126 := by omega
                  exact zt_126
            · rcases Nat.lt_or_ge k 129 with h | h
              · rcases Nat.lt_or_ge k 128 with h | h
                · obtain rfl : k = 127 := by omega
                  exact zt_127
                · obtain rfl : k = 128 := by omega
                  exact zt_128
              · rcases Nat.lt_or_ge k 130 with h | h
                · obtain rfl : k = 129 := by omega
                  exact zt_129
                · obtain rfl : k = 130 := by omega
                  exact zt_130
          · rcases Nat.lt_or_ge k 135 with h | h
            · rcases Nat.lt_or_ge k 133 with h | h
              · rcases Nat.lt_or_ge k 132 with h | h
                · obtain rfl : k = 131 := by omega
                  exact zt_131
                · obtain rfl : k = 132 := by omega
                  exact zt_132
              · rcases Nat.lt_or_ge k 134 with h | h
                · obtain rfl : k = 133 := by omega
                  exact zt_133
                · obtain rfl : k = 134 := by omega
                  exact zt_134
            · rcases Nat.lt_or_ge k 137 with h | h
              · rcases Nat.lt_or_ge k 136 with h | h
                · obtain rfl : k = 135 := by omega
                  exact zt_135
                · obtain rfl : k = 136 := by omega
                  exact zt_136
              · rcases Nat.lt_or_ge k 138 with h | h
                · obtain rfl : k = 137 := by omega
                  exact zt_137
                · obtain rfl : k = 138 := by omega
                  exact zt_138
        · rcases Nat.lt_or_ge k 147 with h | h
          · rcases Nat.lt_or_ge k 143 with h | h
            · rcases Nat.lt_or_ge k 141 with h | h
              · rcases Nat.lt_or_ge k 140 with h | h
                · obtain rfl : k = 139 := by omega
                  exact zt_139
                · obtain rfl : k = 140 := by omega
                  exact zt_140
              · rcases Nat.lt_or_ge k 142 with h | h
                · obtain rfl : k = 141 := by omega
                  exact zt_141
                · obtain rfl : k = 142 := by omega
                  exact zt_142
            · rcases Nat.lt_or_ge k 145 with h | h
              · rcases Nat.lt_or_ge k 144 with h | h
                · obtain rfl : k = 143 := by omega
                  exact zt_143
                · obtain rfl : k = 144 := by omega
                  exact zt_144
              · rcases Nat.lt_or_ge k 146 with h | h
                · obtain rfl : k = 145 := by omega
                  exact zt_145
                · obtain rfl : k = 146 := by omega
                  exact zt_146
          · rcases Nat.lt_or_ge k 151 with h | h
            · rcases Nat.lt_or_ge k 149 with h | h
              · rcases Nat.lt_or_ge k 148 with h | h
                · obtain rfl : k = 147 := by omega
                  exact zt_147
                · obtain rfl : k = 148 := by omega
                  exact zt_148
              · rcases Nat.lt_or_ge k 150 with h | h
                · obtain rfl : k = 149 := by omega
                  exact zt_149
                · obtain rfl : k = 150 := by omega
                  exact zt_150
            · rcases Nat.lt_or_ge k 153 with h | h
              · rcases Nat.lt_or_ge k 152 with h | h
                · obtain rfl : k = 151 := by omega
                  exact zt_151
                · obtain rfl : k = 152 := by omega
                  exact zt_152
              · rcases Nat.lt_or_ge k 154 with h | h
                · obtain rfl : k = 153 := by omega
                  exact zt_153
                · obtain rfl : k = 154 := by omega
                  exact zt_154
      · rcases Nat.lt_or_ge k 170 with h | h
        · rcases Nat.lt_or_ge k 162 with h | h
          · rcases Nat.lt_or_ge k 158 with h | h
            · rcases Nat.lt_or_ge k 156 with h | h
              · obtain rfl : k = 155 := by omega
                exact zt_155
              · rcases Nat.lt_or_ge k 157 with h | h
                · obtain rfl : k = 156 := by omega
                  exact zt_156
                · obtain rfl : k = 157 := by omega
                  exact zt_157
            · rcases Nat.lt_or_ge k 160 with h | h
              · rcases Nat.lt_or_ge k 159 with h | h
                · obtain rfl : k = 158 := by omega
                  exact zt_158
                · obtain rfl : k = 159 := by omega
                  exact zt_159
              · rcases Nat.lt_or_ge k 161 with h | h
                · obtain rfl : k = 160 := by omega
                  exact zt_160
                · obtain rfl : k = 161 := by omega
                  exact zt_161
          · rcases Nat.lt_or_ge k 166 with h | h
            · rcases Nat.lt_or_ge k 164 with h | h
              · rcases Nat.lt_or_ge k 163 with h | h
                · obtain rfl : k = 162 := by omega
                  exact zt_162
                · obtain rfl : k = 163 := by omega
                  exact zt_163
              · rcases Nat.lt_or_ge k 165 with h | h
                · obtain rfl : k = 164 := by omega
                  exact zt_164
                · obtain rfl : k = 165 := by omega
                  exact zt_165
            · rcases Nat.lt_or_ge k 168 with h | h
              · rcases Nat.lt_or_ge k 167 with h | h
                · obtain rfl : k = 166 := by omega
                  exact zt_166
                · obtain rfl : k = 167 := by omega
                  exact zt_167
              · rcases Nat.lt_or_ge k 169 with h | h
                · obtain rfl : k = 168 := by omega
                  exact zt_168
                · obtain rfl : k = 169 := by omega
                  exact zt_169
        · rcases Nat.lt_or_ge k 178 with h | h
          · rcases Nat.lt_or_ge k 174 with h | h
            · rcases Nat.lt_or_ge k 172 with h | h
              · rcases Nat.lt_or_ge k 171 with h | h
                · obtain rfl : k = 170 := by omega
                  exact zt_170
                · obtain rfl : k = 171 := by omega
                  exact zt_171
              · rcases Nat.lt_or_ge k 173 with h | h
                · obtain rfl : k = 172 := by omega
                  exact zt_172
                · obtain rfl : k = 173 := by omega
                  exact zt_173
            · rcases Nat.lt_or_ge k 176 with h | h
              · rcases Nat.lt_or_ge k 175 with h | h
                · obtain rfl : k = 174 := by omega
                  exact zt_174
                · obtain rfl : k = 175 := by omega
                  exact zt_175
              · rcases Nat.lt_or_ge k 177 with h | h
                · obtain rfl : k = 176 := by omega
                  exact zt_176
                · obtain rfl : k = 177 := by omega
                  exact zt_177
          · rcases Nat.lt_or_ge k 182 with h | h
            · rcases Nat.lt_or_ge k 180 with h | h
              · rcases Nat.lt_or_ge k 179 with h | h
                · obtain rfl : k = 178 := by omega
                  exact zt_178
                · obtain rfl : k = 179 := by omega
                  exact zt_179
              · rcases Nat.lt_or_ge k 181 with h | h
                · obtain rfl : k = 180 := by omega
                  exact zt_180
                · obtain rfl : k = 181 := by omega
                  exact zt_181
            · rcases Nat.lt_or_ge k 184 with h | h
              · rcases Nat.lt_or_ge k 183 with h | h
                · obtain rfl : k = 182 := by omega
                  exact zt_182
                · obtain rfl : k = 183 := by omega
                  exact zt_183
              · rcases Nat.lt_or_ge k 185 with h | h
                · obtain rfl : k = 184 := by omega
                  exact zt_184
                · obtain rfl : k = 185 := by omega
                  exact zt_185
    · rcases Nat.lt_or_ge k 217 with h | h
      · rcases Nat.lt_or_ge k 201 with h | h
        · rcases Nat.lt_or_ge k 193 with h | h
          · rcases Nat.lt_or_ge k 189 with h | h
            · rcases Nat.lt_or_ge k 187 with h | h
              · obtain rfl : k = 186 := by omega
                exact zt_186
              · rcases Nat.lt_or_ge k 188 with h | h
                · obtain rfl : k = 187 := by omega
                  exact zt_187
                · obtain rfl : k = 188 := by omega
                  exact zt_188
            · rcases Nat.lt_or_ge k 191 with h | h
              · rcases Nat.lt_or_ge k 190 with h | h
                · obtain rfl : k = 189 := by omega
                  exact zt_189
                · obtain rfl : k = 190 := by omega
                  exact zt_190
              · rcases Nat.lt_or_ge k 192 with h | h
                · obtain rfl : k = 191 := by omega
                  exact zt_191
                · obtain rfl : k = 192 := by omega
                  exact zt_192
          · rcases Nat.lt_or_ge k 197 with h | h
            · rcases Nat.lt_or_ge k 195 with h | h
              · rcases Nat.lt_or_ge k 194 with h | h
                · obtain rfl : k = 193 := by omega
                  exact zt_193
                · obtain rfl : k = 194 := by omega
                  exact zt_194
              · rcases Nat.lt_or_ge k 196 with h | h
                · obtain rfl : k = 195 := by omega
                  exact zt_195
                · obtain rfl : k = 196 := by omega
                  exact zt_196
            · rcases Nat.lt_or_ge k 199 with h | h
              · rcases Nat.lt_or_ge k 198 with h | h
                · obtain rfl : k = 197 := by omega
                  exact zt_197
                · obtain rfl : k = 198 := by omega
                  exact zt_198
              · rcases Nat.lt_or_ge k 200 with h | h
                · obtain rfl : k = 199 := by omega
                  exact zt_199
                · obtain rfl : k = 200 := by omega
                  exact zt_200
        · rcases Nat.lt_or_ge k 209 with h | h
          · rcases Nat.lt_or_ge k 205 with h | h
            · rcases Nat.lt_or_ge k 203 with h | h
              · rcases Nat.lt_or_ge k 202 with h | h
                · obtain rfl : k = 201 := by omega
                  exact zt_201
                · obtain rfl : k = 202 := by omega
                  exact zt_202
              · rcases Nat.lt_or_ge k 204 with h | h
                · obtain rfl : k = 203 := by omega
                  exact zt_203
                · obtain rfl : k = 204 := by omega
                  exact zt_204
            · rcases Nat.lt_or_ge k 207 with h | h
              · rcases Nat.lt_or_ge k 206 with h | h
                · obtain rfl : k = 205 := by omega
                  exact zt_205
                · obtain rfl : k = 206 := by omega
                  exact zt_206
              · rcases Nat.lt_or_ge k 208 with h | h
                · obtain rfl : k = 207 := by omega
                  exact zt_207
                · obtain rfl : k = 208 := by omega
                  exact zt_208
          · rcases Nat.lt_or_ge k 213 with h | h
            · rcases Nat.lt_or_ge k 211 with h | h
              · rcases Nat.lt_or_ge k 210 with h | h
                · obtain rfl : k = 209 := by omega
                  exact zt_209
                · obtain rfl : k = 210 := by omega
                  exact zt_210
              · rcases Nat.lt_or_ge k 212 with h | h
                · obtain rfl : k = 211 := by omega
                  exact zt_211
                · obtain rfl : k = 212 := by omega
                  exact zt_212
            · rcases Nat.lt_or_ge k 215 with h | h
              · rcases Nat.lt_or_ge k 214 with h | h
                · obtain rfl : k = 213 := by omega
                  exact zt_213
                · obtain rfl : k = 214 := by omega
                  exact zt_214
              · rcases Nat.lt_or_ge k 216 with h | h
                · obtain rfl : k = 215 := by omega
                  exact zt_215
                · obtain rfl : k = 216 := by omega
                  exact zt_216
      · rcases Nat.lt_or_ge k 232 with h | h
        · rcases Nat.lt_or_ge k 224 with h | h
          · rcases Nat.lt_or_ge k 220 with h | h
            · rcases Nat.lt_or_ge k 218 with h | h
              · obtain rfl : k = 217 := by omega
                exact zt_217
              · rcases Nat.lt_or_ge k 219 with h | h
                · obtain rfl : k = 218 := by omega
                  exact zt_218
                · obtain rfl : k = 219 := by omega
                  exact zt_219
            · rcases Nat.lt_or_ge k 222 with h | h
              · rcases Nat.lt_or_ge k 221 with h | h
                · obtain rfl : k = 220 := by omega
                  exact zt_220
                · obtain rfl : k = 221 := by omega
                  exact zt_221
              · rcases Nat.lt_or_ge k 223 with h | h
                · obtain rfl : k = 222 := by omega
                  exact zt_222
                · obtain rfl : k = 223 := by omega
                  exact zt_223
          · rcases Nat.lt_or_ge k 228 with h | h
            · rcases Nat.lt_or_ge k 226 with h | h
              · rcases Nat.lt_or_ge k 225 with h | h
                · obtain rfl : k = 224 := by omega
                  exact zt_224
                · obtain rfl : k = 225 := by omega
                  exact zt_225
              · rcases Nat.lt_or_ge k 227 with h | h
                · obtain rfl : k = 226 := by omega
                  exact zt_226
                · obtain rfl : k = 227 := by omega
                  exact zt_227
            · rcases Nat.lt_or_ge k 230 with h | h
              · rcases Nat.lt_or_ge k 229 with h | h
                · obtain rfl : k = 228 := by omega
                  exact zt_228
                · obtain rfl : k = 229 := by omega
                  exact zt_229
              · rcases Nat.lt_or_ge k 231 with h | h
                · obtain rfl : k = 230 := by omega
                  exact zt_230
                · obtain rfl : k = 231 := by omega
                  exact zt_231
        · rcases Nat.lt_or_ge k 240 with h | h
          · rcases Nat.lt_or_ge k 236 with h | h
            · rcases Nat.lt_or_ge k 234 with h | h
              · rcases Nat.lt_or_ge k 233 with h | h
                · obtain rfl : k = 232 := by omega
                  exact zt_232
                · obtain rfl : k = 233 := by omega
                  exact zt_233
              · rcases Nat.lt_or_ge k 235 with h | h
                · obtain rfl : k = 234 := by omega
                  exact zt_234
                · obtain rfl : k = 235 := by omega
                  exact zt_235
            · rcases Nat.lt_or_ge k 238 with h | h
              · rcases Nat.lt_or_ge k 237 with h | h
                · obtain rfl : k = 236 := by omega
                  exact zt_236
                · obtain rfl : k = 237 := by omega
                  exact zt_237
              · rcases Nat.lt_or_ge k 239 with h | h
                · obtain rfl : k = 238 := by omega
                  exact zt_238
                · obtain rfl : k = 239 := by omega
                  exact zt_239
          · rcases Nat.lt_or_ge k 244 with h | h
            · rcases Nat.lt_or_ge k 242 with h | h
              · rcases Nat.lt_or_ge k 241 with h | h
                · obtain rfl : k = 240 := by omega
                  exact zt_240
                · obtain rfl : k = 241 := by omega
                  exact zt_241
              · rcases Nat.lt_or_ge k 243 with h | h
                · obtain rfl : k = 242 := by omega
                  exact zt_242
                · obtain rfl : k = 243 := by omega
                  exact zt_243
            · rcases Nat.lt_or_ge k 246 with h | h
              · rcases Nat.lt_or_ge k 245 with h | h
                · obtain rfl : k = 244 := by omega
                  exact zt_244
                · obtain rfl : k = 245 := by omega
                  exact zt_245
              · rcases Nat.lt_or_ge k 247 with h | h
                · obtain rfl : k = 246 := by omega
                  exact zt_246
                · obtain rfl : k = 247 := by omega
                  exact zt_247
