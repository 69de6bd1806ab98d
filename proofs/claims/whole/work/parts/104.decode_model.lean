theorem dX11_init_0 : decode cX11_init 0 = .ok (.aload_n 0, 1) := by decide +kernel
theorem dX11_init_1 : decode cX11_init 1 = .ok (.invokespecial 1, 3) := by decide +kernel
theorem dX11_init_4 : decode cX11_init 4 = .ok (.aload_n 0, 1) := by decide +kernel
theorem dX11_init_5 : decode cX11_init 5 = .ok (.sipush 1748, 3) := by decide +kernel
theorem dX11_init_8 : decode cX11_init 8 = .ok (.newarray .int, 2) := by decide +kernel
theorem dX11_init_10 : decode cX11_init 10 = .ok (.putfield 7, 3) := by decide +kernel
theorem dX11_init_13 : decode cX11_init 13 = .ok (.aload_n 0, 1) := by decide +kernel
theorem dX11_init_14 : decode cX11_init 14 = .ok (.sipush 1748, 3) := by decide +kernel
theorem dX11_init_17 : decode cX11_init 17 = .ok (.newarray .int, 2) := by decide +kernel
theorem dX11_init_19 : decode cX11_init 19 = .ok (.putfield 13, 3) := by decide +kernel
theorem dX11_init_22 : decode cX11_init 22 = .ok (.aload_n 0, 1) := by decide +kernel
theorem dX11_init_23 : decode cX11_init 23 = .ok (.sipush 8740, 3) := by decide +kernel
theorem dX11_init_26 : decode cX11_init 26 = .ok (.newarray .int, 2) := by decide +kernel
theorem dX11_init_28 : decode cX11_init 28 = .ok (.putfield 16, 3) := by decide +kernel
theorem dX11_init_31 : decode cX11_init 31 = .ok (.aload_n 0, 1) := by decide +kernel
theorem dX11_init_32 : decode cX11_init 32 = .ok (.sipush 3496, 3) := by decide +kernel
theorem dX11_init_35 : decode cX11_init 35 = .ok (.newarray .int, 2) := by decide +kernel
theorem dX11_init_37 : decode cX11_init 37 = .ok (.putfield 19, 3) := by decide +kernel
theorem dX11_init_40 : decode cX11_init 40 = .ok (.aload_n 0, 1) := by decide +kernel
theorem dX11_init_41 : decode cX11_init 41 = .ok (.iconst 2, 1) := by decide +kernel
theorem dX11_init_42 : decode cX11_init 42 = .ok (.newarray .boolean, 2) := by decide +kernel
theorem dX11_init_44 : decode cX11_init 44 = .ok (.putfield 22, 3) := by decide +kernel
theorem dX11_init_47 : decode cX11_init 47 = .ok (.aload_n 0, 1) := by decide +kernel
theorem dX11_init_48 : decode cX11_init 48 = .ok (.sipush 160, 3) := by decide +kernel
theorem dX11_init_51 : decode cX11_init 51 = .ok (.newarray .int, 2) := by decide +kernel
theorem dX11_init_53 : decode cX11_init 53 = .ok (.putfield 26, 3) := by decide +kernel
theorem dX11_init_56 : decode cX11_init 56 = .ok (.aload_n 0, 1) := by decide +kernel
theorem dX11_init_57 : decode cX11_init 57 = .ok (.bipush 100, 2) := by decide +kernel
theorem dX11_init_59 : decode cX11_init 59 = .ok (.newarray .int, 2) := by decide +kernel
theorem dX11_init_61 : decode cX11_init 61 = .ok (.putfield 29, 3) := by decide +kernel
theorem dX11_init_64 : decode cX11_init 64 = .ok (.aload_n 0, 1) := by decide +kernel
theorem dX11_init_65 : decode cX11_init 65 = .ok (.bipush 24, 2) := by decide +kernel
theorem dX11_init_67 : decode cX11_init 67 = .ok (.newarray .int, 2) := by decide +kernel
theorem dX11_init_69 : decode cX11_init 69 = .ok (.putfield 32, 3) := by decide +kernel
theorem dX11_init_72 : decode cX11_init 72 = .ok (.aload_n 0, 1) := by decide +kernel
theorem dX11_init_73 : decode cX11_init 73 = .ok (.bipush 24, 2) := by decide +kernel
theorem dX11_init_75 : decode cX11_init 75 = .ok (.newarray .int, 2) := by decide +kernel
theorem dX11_init_77 : decode cX11_init 77 = .ok (.putfield 35, 3) := by decide +kernel
theorem dX11_init_80 : decode cX11_init 80 = .ok (.aload_n 0, 1) := by decide +kernel
theorem dX11_init_81 : decode cX11_init 81 = .ok (.bipush 24, 2) := by decide +kernel
theorem dX11_init_83 : decode cX11_init 83 = .ok (.newarray .int, 2) := by decide +kernel
theorem dX11_init_85 : decode cX11_init 85 = .ok (.putfield 38, 3) := by decide +kernel
theorem dX11_init_88 : decode cX11_init 88 = .ok (.aload_n 0, 1) := by decide +kernel
theorem dX11_init_89 : decode cX11_init 89 = .ok (.bipush 24, 2) := by decide +kernel
theorem dX11_init_91 : decode cX11_init 91 = .ok (.newarray .int, 2) := by decide +kernel
theorem dX11_init_93 : decode cX11_init 93 = .ok (.putfield 41, 3) := by decide +kernel
theorem dX11_init_96 : decode cX11_init 96 = .ok (.aload_n 0, 1) := by decide +kernel
theorem dX11_init_97 : decode cX11_init 97 = .ok (.bipush 24, 2) := by decide +kernel
theorem dX11_init_99 : decode cX11_init 99 = .ok (.newarray .int, 2) := by decide +kernel
theorem dX11_init_101 : decode cX11_init 101 = .ok (.putfield 44, 3) := by decide +kernel
theorem dX11_init_104 : decode cX11_init 104 = .ok (.aload_n 0, 1) := by decide +kernel
theorem dX11_init_105 : decode cX11_init 105 = .ok (.bipush 24, 2) := by decide +kernel
theorem dX11_init_107 : decode cX11_init 107 = .ok (.newarray .int, 2) := by decide +kernel
theorem dX11_init_109 : decode cX11_init 109 = .ok (.putfield 47, 3) := by decide +kernel
theorem dX11_init_112 : decode cX11_init 112 = .ok (.aload_n 0, 1) := by decide +kernel
theorem dX11_init_113 : decode cX11_init 113 = .ok (.bipush 24, 2) := by decide +kernel
theorem dX11_init_115 : decode cX11_init 115 = .ok (.newarray .int, 2) := by decide +kernel
theorem dX11_init_117 : decode cX11_init 117 = .ok (.putfield 50, 3) := by decide +kernel
theorem dX11_init_120 : decode cX11_init 120 = .ok (.aload_n 0, 1) := by decide +kernel
theorem dX11_init_121 : decode cX11_init 121 = .ok (.bipush 24, 2) := by decide +kernel
theorem dX11_init_123 : decode cX11_init 123 = .ok (.newarray .int, 2) := by decide +kernel
theorem dX11_init_125 : decode cX11_init 125 = .ok (.putfield 53, 3) := by decide +kernel
theorem dX11_init_128 : decode cX11_init 128 = .ok (.aload_n 0, 1) := by decide +kernel
theorem dX11_init_129 : decode cX11_init 129 = .ok (.bipush 24, 2) := by decide +kernel
theorem dX11_init_131 : decode cX11_init 131 = .ok (.newarray .int, 2) := by decide +kernel
theorem dX11_init_133 : decode cX11_init 133 = .ok (.putfield 56, 3) := by decide +kernel
theorem dX11_init_136 : decode cX11_init 136 = .ok (.aload_n 0, 1) := by decide +kernel
theorem dX11_init_137 : decode cX11_init 137 = .ok (.bipush 24, 2) := by decide +kernel
theorem dX11_init_139 : decode cX11_init 139 = .ok (.newarray .int, 2) := by decide +kernel
theorem dX11_init_141 : decode cX11_init 141 = .ok (.putfield 59, 3) := by decide +kernel
theorem dX11_init_144 : decode cX11_init 144 = .ok (.aload_n 0, 1) := by decide +kernel
theorem dX11_init_145 : decode cX11_init 145 = .ok (.sipush 2000, 3) := by decide +kernel
theorem dX11_init_148 : decode cX11_init 148 = .ok (.newarray .int, 2) := by decide +kernel
theorem dX11_init_150 : decode cX11_init 150 = .ok (.putfield 62, 3) := by decide +kernel
theorem dX11_init_153 : decode cX11_init 153 = .ok (.aload_n 0, 1) := by decide +kernel
theorem dX11_init_154 : decode cX11_init 154 = .ok (.sipush 2000, 3) := by decide +kernel
theorem dX11_init_157 : decode cX11_init 157 = .ok (.newarray .int, 2) := by decide +kernel
theorem dX11_init_159 : decode cX11_init 159 = .ok (.putfield 65, 3) := by decide +kernel
theorem dX11_init_162 : decode cX11_init 162 = .ok (.aload_n 0, 1) := by decide +kernel
theorem dX11_init_163 : decode cX11_init 163 = .ok (.sipush 2000, 3) := by decide +kernel
theorem dX11_init_166 : decode cX11_init 166 = .ok (.newarray .int, 2) := by decide +kernel
theorem dX11_init_168 : decode cX11_init 168 = .ok (.putfield 68, 3) := by decide +kernel
theorem dX11_init_171 : decode cX11_init 171 = .ok (.aload_n 0, 1) := by decide +kernel
theorem dX11_init_172 : decode cX11_init 172 = .ok (.sipush 2000, 3) := by decide +kernel
theorem dX11_init_175 : decode cX11_init 175 = .ok (.newarray .int, 2) := by decide +kernel
theorem dX11_init_177 : decode cX11_init 177 = .ok (.putfield 71, 3) := by decide +kernel
theorem dX11_init_180 : decode cX11_init 180 = .ok (.aload_n 0, 1) := by decide +kernel
theorem dX11_init_181 : decode cX11_init 181 = .ok (.bipush 40, 2) := by decide +kernel
theorem dX11_init_183 : decode cX11_init 183 = .ok (.newarray .boolean, 2) := by decide +kernel
theorem dX11_init_185 : decode cX11_init 185 = .ok (.putfield 74, 3) := by decide +kernel
theorem dX11_init_188 : decode cX11_init 188 = .ok (.aload_n 0, 1) := by decide +kernel
theorem dX11_init_189 : decode cX11_init 189 = .ok (.bipush 40, 2) := by decide +kernel
theorem dX11_init_191 : decode cX11_init 191 = .ok (.newarray .boolean, 2) := by decide +kernel
theorem dX11_init_193 : decode cX11_init 193 = .ok (.putfield 77, 3) := by decide +kernel
theorem dX11_init_196 : decode cX11_init 196 = .ok (.aload_n 0, 1) := by decide +kernel
theorem dX11_init_197 : decode cX11_init 197 = .ok (.bipush 24, 2) := by decide +kernel
theorem dX11_init_199 : decode cX11_init 199 = .ok (.newarray .boolean, 2) := by decide +kernel
theorem dX11_init_201 : decode cX11_init 201 = .ok (.putfield 80, 3) := by decide +kernel
theorem dX11_init_204 : decode cX11_init 204 = .ok (.aload_n 0, 1) := by decide +kernel
theorem dX11_init_205 : decode cX11_init 205 = .ok (.iconst 4, 1) := by decide +kernel
theorem dX11_init_206 : decode cX11_init 206 = .ok (.newarray .int, 2) := by decide +kernel
theorem dX11_init_208 : decode cX11_init 208 = .ok (.putfield 83, 3) := by decide +kernel
theorem dX11_init_211 : decode cX11_init 211 = .ok (.aload_n 0, 1) := by decide +kernel
theorem dX11_init_212 : decode cX11_init 212 = .ok (.getfield 7, 3) := by decide +kernel
theorem dX11_init_215 : decode cX11_init 215 = .ok (.iconst 1, 1) := by decide +kernel
theorem dX11_init_216 : decode cX11_init 216 = .ok (.bipush 16, 2) := by decide +kernel
theorem dX11_init_218 : decode cX11_init 218 = .ok (.iastore, 1) := by decide +kernel
theorem dX11_init_219 : decode cX11_init 219 = .ok (.aload_n 0, 1) := by decide +kernel
theorem dX11_init_220 : decode cX11_init 220 = .ok (.getfield 7, 3) := by decide +kernel
theorem dX11_init_223 : decode cX11_init 223 = .ok (.iconst 2, 1) := by decide +kernel
theorem dX11_init_224 : decode cX11_init 224 = .ok (.bipush 16, 2) := by decide +kernel
theorem dX11_init_226 : decode cX11_init 226 = .ok (.iastore, 1) := by decide +kernel
theorem dX11_init_227 : decode cX11_init 227 = .ok (.aload_n 0, 1) := by decide +kernel
theorem dX11_init_228 : decode cX11_init 228 = .ok (.getfield 7, 3) := by decide +kernel
theorem dX11_init_231 : decode cX11_init 231 = .ok (.iconst 3, 1) := by decide +kernel
theorem dX11_init_232 : decode cX11_init 232 = .ok (.iconst 2, 1) := by decide +kernel
theorem dX11_init_233 : decode cX11_init 233 = .ok (.iastore, 1) := by decide +kernel
theorem dX11_init_234 : decode cX11_init 234 = .ok (.aload_n 0, 1) := by decide +kernel
theorem dX11_init_235 : decode cX11_init 235 = .ok (.getfield 7, 3) := by decide +kernel
theorem dX11_init_238 : decode cX11_init 238 = .ok (.bipush 7, 2) := by decide +kernel
theorem dX11_init_240 : decode cX11_init 240 = .ok (.iconst 1, 1) := by decide +kernel
theorem dX11_init_241 : decode cX11_init 241 = .ok (.iastore, 1) := by decide +kernel
theorem dX11_init_242 : decode cX11_init 242 = .ok (.aload_n 0, 1) := by decide +kernel
theorem dX11_init_243 : decode cX11_init 243 = .ok (.getfield 7, 3) := by decide +kernel
theorem dX11_init_246 : decode cX11_init 246 = .ok (.bipush 8, 2) := by decide +kernel
theorem dX11_init_248 : decode cX11_init 248 = .ok (.iconst 1, 1) := by decide +kernel
theorem dX11_init_249 : decode cX11_init 249 = .ok (.iastore, 1) := by decide +kernel
theorem dX11_init_250 : decode cX11_init 250 = .ok (.return_, 1) := by decide +kernel
theorem dX11_in_0 : decode cX11_in 0 = .ok (.iload_n 0, 1) := by decide +kernel
theorem dX11_in_1 : decode cX11_in 1 = .ok (.iload_n 1, 1) := by decide +kernel
theorem dX11_in_2 : decode cX11_in 2 = .ok (.if_icmp .lt 12, 3) := by decide +kernel
theorem dX11_in_5 : decode cX11_in 5 = .ok (.iload_n 0, 1) := by decide +kernel
theorem dX11_in_6 : decode cX11_in 6 = .ok (.iload_n 2, 1) := by decide +kernel
theorem dX11_in_7 : decode cX11_in 7 = .ok (.if_icmp .gt 7, 3) := by decide +kernel
theorem dX11_in_10 : decode cX11_in 10 = .ok (.iconst 1, 1) := by decide +kernel
theorem dX11_in_11 : decode cX11_in 11 = .ok (.goto 4, 3) := by decide +kernel
theorem dX11_in_14 : decode cX11_in 14 = .ok (.iconst 0, 1) := by decide +kernel
theorem dX11_in_15 : decode cX11_in 15 = .ok (.ireturn, 1) := by decide +kernel
theorem dX11_at_0 : decode cX11_at 0 = .ok (.bipush 20, 2) := by decide +kernel
theorem dX11_at_2 : decode cX11_at 2 = .ok (.bipush 72, 2) := by decide +kernel
theorem dX11_at_4 : decode cX11_at 4 = .ok (.iload_n 0, 1) := by decide +kernel
theorem dX11_at_5 : decode cX11_at 5 = .ok (.imul, 1) := by decide +kernel
theorem dX11_at_6 : decode cX11_at 6 = .ok (.iadd, 1) := by decide +kernel
theorem dX11_at_7 : decode cX11_at 7 = .ok (.iload_n 1, 1) := by decide +kernel
theorem dX11_at_8 : decode cX11_at 8 = .ok (.iadd, 1) := by decide +kernel
theorem dX11_at_9 : decode cX11_at 9 = .ok (.ireturn, 1) := by decide +kernel
theorem dX11_pixelAt_0 : decode cX11_pixelAt 0 = .ok (.bipush 20, 2) := by decide +kernel
theorem dX11_pixelAt_2 : decode cX11_pixelAt 2 = .ok (.bipush 72, 2) := by decide +kernel
theorem dX11_pixelAt_4 : decode cX11_pixelAt 4 = .ok (.iload_n 0, 1) := by decide +kernel
theorem dX11_pixelAt_5 : decode cX11_pixelAt 5 = .ok (.imul, 1) := by decide +kernel
theorem dX11_pixelAt_6 : decode cX11_pixelAt 6 = .ok (.iadd, 1) := by decide +kernel
theorem dX11_pixelAt_7 : decode cX11_pixelAt 7 = .ok (.bipush 8, 2) := by decide +kernel
theorem dX11_pixelAt_9 : decode cX11_pixelAt 9 = .ok (.iadd, 1) := by decide +kernel
theorem dX11_pixelAt_10 : decode cX11_pixelAt 10 = .ok (.bipush 8, 2) := by decide +kernel
theorem dX11_pixelAt_12 : decode cX11_pixelAt 12 = .ok (.iload_n 2, 1) := by decide +kernel
theorem dX11_pixelAt_13 : decode cX11_pixelAt 13 = .ok (.imul, 1) := by decide +kernel
theorem dX11_pixelAt_14 : decode cX11_pixelAt 14 = .ok (.iadd, 1) := by decide +kernel
theorem dX11_pixelAt_15 : decode cX11_pixelAt 15 = .ok (.iload_n 1, 1) := by decide +kernel
theorem dX11_pixelAt_16 : decode cX11_pixelAt 16 = .ok (.iadd, 1) := by decide +kernel
theorem dX11_pixelAt_17 : decode cX11_pixelAt 17 = .ok (.ireturn, 1) := by decide +kernel
theorem dX11_isSprite_0 : decode cX11_isSprite 0 = .ok (.iload_n 1, 1) := by decide +kernel
theorem dX11_isSprite_1 : decode cX11_isSprite 1 = .ok (.iconst 0, 1) := by decide +kernel
theorem dX11_isSprite_2 : decode cX11_isSprite 2 = .ok (.aload_n 0, 1) := by decide +kernel
theorem dX11_isSprite_3 : decode cX11_isSprite 3 = .ok (.getfield 7, 3) := by decide +kernel
theorem dX11_isSprite_6 : decode cX11_isSprite 6 = .ok (.iconst 0, 1) := by decide +kernel
theorem dX11_isSprite_7 : decode cX11_isSprite 7 = .ok (.iaload, 1) := by decide +kernel
theorem dX11_isSprite_8 : decode cX11_isSprite 8 = .ok (.iconst 1, 1) := by decide +kernel
theorem dX11_isSprite_9 : decode cX11_isSprite 9 = .ok (.isub, 1) := by decide +kernel
theorem dX11_isSprite_10 : decode cX11_isSprite 10 = .ok (.invokestatic 86, 3) := by decide +kernel
theorem dX11_isSprite_13 : decode cX11_isSprite 13 = .ok (.ireturn, 1) := by decide +kernel
theorem dX11_notes_0 : decode cX11_notes 0 = .ok (.aload_n 0, 1) := by decide +kernel
theorem dX11_notes_1 : decode cX11_notes 1 = .ok (.getfield 90, 3) := by decide +kernel
theorem dX11_notes_4 : decode cX11_notes 4 = .ok (.iconst 5, 1) := by decide +kernel
theorem dX11_notes_5 : decode cX11_notes 5 = .ok (.if_icmp .ne 39, 3) := by decide +kernel
theorem dX11_notes_8 : decode cX11_notes 8 = .ok (.iconst 0, 1) := by decide +kernel
theorem dX11_notes_9 : decode cX11_notes 9 = .ok (.istore_n 1, 1) := by decide +kernel
theorem dX11_notes_10 : decode cX11_notes 10 = .ok (.iload_n 1, 1) := by decide +kernel
theorem dX11_notes_11 : decode cX11_notes 11 = .ok (.sipush 6992, 3) := by decide +kernel
theorem dX11_notes_14 : decode cX11_notes 14 = .ok (.if_icmp .ge 25, 3) := by decide +kernel
theorem dX11_notes_17 : decode cX11_notes 17 = .ok (.aload_n 0, 1) := by decide +kernel
theorem dX11_notes_18 : decode cX11_notes 18 = .ok (.getfield 16, 3) := by decide +kernel
theorem dX11_notes_21 : decode cX11_notes 21 = .ok (.iload_n 1, 1) := by decide +kernel
theorem dX11_notes_22 : decode cX11_notes 22 = .ok (.aload_n 0, 1) := by decide +kernel
theorem dX11_notes_23 : decode cX11_notes 23 = .ok (.getfield 16, 3) := by decide +kernel
theorem dX11_notes_26 : decode cX11_notes 26 = .ok (.iload_n 1, 1) := by decide +kernel
theorem dX11_notes_27 : decode cX11_notes 27 = .ok (.sipush 1748, 3) := by decide +kernel
theorem dX11_notes_30 : decode cX11_notes 30 = .ok (.iadd, 1) := by decide +kernel
theorem dX11_notes_31 : decode cX11_notes 31 = .ok (.iaload, 1) := by decide +kernel
theorem dX11_notes_32 : decode cX11_notes 32 = .ok (.iastore, 1) := by decide +kernel
theorem dX11_notes_33 : decode cX11_notes 33 = .ok (.iinc 1 1, 3) := by decide +kernel
theorem dX11_notes_36 : decode cX11_notes 36 = .ok (.goto (-26), 3) := by decide +kernel
theorem dX11_notes_39 : decode cX11_notes 39 = .ok (.aload_n 0, 1) := by decide +kernel
theorem dX11_notes_40 : decode cX11_notes 40 = .ok (.iconst 4, 1) := by decide +kernel
theorem dX11_notes_41 : decode cX11_notes 41 = .ok (.putfield 90, 3) := by decide +kernel
theorem dX11_notes_44 : decode cX11_notes 44 = .ok (.iconst 0, 1) := by decide +kernel
theorem dX11_notes_45 : decode cX11_notes 45 = .ok (.istore_n 1, 1) := by decide +kernel
theorem dX11_notes_46 : decode cX11_notes 46 = .ok (.iload_n 1, 1) := by decide +kernel
theorem dX11_notes_47 : decode cX11_notes 47 = .ok (.sipush 1748, 3) := by decide +kernel
theorem dX11_notes_50 : decode cX11_notes 50 = .ok (.if_icmp .ge 30, 3) := by decide +kernel
theorem dX11_notes_53 : decode cX11_notes 53 = .ok (.aload_n 0, 1) := by decide +kernel
theorem dX11_notes_54 : decode cX11_notes 54 = .ok (.getfield 16, 3) := by decide +kernel
theorem dX11_notes_57 : decode cX11_notes 57 = .ok (.sipush 1748, 3) := by decide +kernel
theorem dX11_notes_60 : decode cX11_notes 60 = .ok (.aload_n 0, 1) := by decide +kernel
theorem dX11_notes_61 : decode cX11_notes 61 = .ok (.getfield 90, 3) := by decide +kernel
theorem dX11_notes_64 : decode cX11_notes 64 = .ok (.imul, 1) := by decide +kernel
theorem dX11_notes_65 : decode cX11_notes 65 = .ok (.iload_n 1, 1) := by decide +kernel
theorem dX11_notes_66 : decode cX11_notes 66 = .ok (.iadd, 1) := by decide +kernel
theorem dX11_notes_67 : decode cX11_notes 67 = .ok (.aload_n 0, 1) := by decide +kernel
theorem dX11_notes_68 : decode cX11_notes 68 = .ok (.getfield 7, 3) := by decide +kernel
theorem dX11_notes_71 : decode cX11_notes 71 = .ok (.iload_n 1, 1) := by decide +kernel
theorem dX11_notes_72 : decode cX11_notes 72 = .ok (.iaload, 1) := by decide +kernel
theorem dX11_notes_73 : decode cX11_notes 73 = .ok (.iastore, 1) := by decide +kernel
theorem dX11_notes_74 : decode cX11_notes 74 = .ok (.iinc 1 1, 3) := by decide +kernel
theorem dX11_notes_77 : decode cX11_notes 77 = .ok (.goto (-31), 3) := by decide +kernel
theorem dX11_notes_80 : decode cX11_notes 80 = .ok (.aload_n 0, 1) := by decide +kernel
theorem dX11_notes_81 : decode cX11_notes 81 = .ok (.dup, 1) := by decide +kernel
theorem dX11_notes_82 : decode cX11_notes 82 = .ok (.getfield 90, 3) := by decide +kernel
theorem dX11_notes_85 : decode cX11_notes 85 = .ok (.iconst 1, 1) := by decide +kernel
theorem dX11_notes_86 : decode cX11_notes 86 = .ok (.iadd, 1) := by decide +kernel
theorem dX11_notes_87 : decode cX11_notes 87 = .ok (.putfield 90, 3) := by decide +kernel
theorem dX11_notes_90 : decode cX11_notes 90 = .ok (.return_, 1) := by decide +kernel
theorem dX11_empties_0 : decode cX11_empties 0 = .ok (.aload_n 0, 1) := by decide +kernel
theorem dX11_empties_1 : decode cX11_empties 1 = .ok (.getfield 7, 3) := by decide +kernel
theorem dX11_empties_4 : decode cX11_empties 4 = .ok (.bipush 13, 2) := by decide +kernel
theorem dX11_empties_6 : decode cX11_empties 6 = .ok (.iconst 0, 1) := by decide +kernel
theorem dX11_empties_7 : decode cX11_empties 7 = .ok (.iastore, 1) := by decide +kernel
theorem dX11_empties_8 : decode cX11_empties 8 = .ok (.iconst 0, 1) := by decide +kernel
theorem dX11_empties_9 : decode cX11_empties 9 = .ok (.istore_n 1, 1) := by decide +kernel
theorem dX11_empties_10 : decode cX11_empties 10 = .ok (.iload_n 1, 1) := by decide +kernel
theorem dX11_empties_11 : decode cX11_empties 11 = .ok (.bipush 24, 2) := by decide +kernel
theorem dX11_empties_13 : decode cX11_empties 13 = .ok (.if_icmp .ge 20, 3) := by decide +kernel
theorem dX11_empties_16 : decode cX11_empties 16 = .ok (.aload_n 0, 1) := by decide +kernel
theorem dX11_empties_17 : decode cX11_empties 17 = .ok (.getfield 7, 3) := by decide +kernel
theorem dX11_empties_20 : decode cX11_empties 20 = .ok (.iload_n 1, 1) := by decide +kernel
theorem dX11_empties_21 : decode cX11_empties 21 = .ok (.iconst 3, 1) := by decide +kernel
theorem dX11_empties_22 : decode cX11_empties 22 = .ok (.invokestatic 94, 3) := by decide +kernel
theorem dX11_empties_25 : decode cX11_empties 25 = .ok (.iconst (-1), 1) := by decide +kernel
theorem dX11_empties_26 : decode cX11_empties 26 = .ok (.iastore, 1) := by decide +kernel
theorem dX11_empties_27 : decode cX11_empties 27 = .ok (.iinc 1 1, 3) := by decide +kernel
theorem dX11_empties_30 : decode cX11_empties 30 = .ok (.goto (-20), 3) := by decide +kernel
theorem dX11_empties_33 : decode cX11_empties 33 = .ok (.return_, 1) := by decide +kernel
theorem dX11_sets_0 : decode cX11_sets 0 = .ok (.aload_n 0, 1) := by decide +kernel
theorem dX11_sets_1 : decode cX11_sets 1 = .ok (.invokevirtual 98, 3) := by decide +kernel
theorem dX11_sets_4 : decode cX11_sets 4 = .ok (.aload_n 0, 1) := by decide +kernel
theorem dX11_sets_5 : decode cX11_sets 5 = .ok (.getfield 7, 3) := by decide +kernel
theorem dX11_sets_8 : decode cX11_sets 8 = .ok (.iload_n 1, 1) := by decide +kernel
theorem dX11_sets_9 : decode cX11_sets 9 = .ok (.iaload, 1) := by decide +kernel
theorem dX11_sets_10 : decode cX11_sets 10 = .ok (.istore_n 3, 1) := by decide +kernel
theorem dX11_sets_11 : decode cX11_sets 11 = .ok (.aload_n 0, 1) := by decide +kernel
theorem dX11_sets_12 : decode cX11_sets 12 = .ok (.getfield 7, 3) := by decide +kernel
theorem dX11_sets_15 : decode cX11_sets 15 = .ok (.iload_n 1, 1) := by decide +kernel
theorem dX11_sets_16 : decode cX11_sets 16 = .ok (.iload_n 2, 1) := by decide +kernel
theorem dX11_sets_17 : decode cX11_sets 17 = .ok (.iastore, 1) := by decide +kernel
theorem dX11_sets_18 : decode cX11_sets 18 = .ok (.aload_n 0, 1) := by decide +kernel
theorem dX11_sets_19 : decode cX11_sets 19 = .ok (.invokevirtual 101, 3) := by decide +kernel
theorem dX11_sets_22 : decode cX11_sets 22 = .ok (.iload_n 3, 1) := by decide +kernel
theorem dX11_sets_23 : decode cX11_sets 23 = .ok (.ireturn, 1) := by decide +kernel
theorem dX11_undo_0 : decode cX11_undo 0 = .ok (.aload_n 0, 1) := by decide +kernel
theorem dX11_undo_1 : decode cX11_undo 1 = .ok (.getfield 90, 3) := by decide +kernel
theorem dX11_undo_4 : decode cX11_undo 4 = .ok (.ifCond .ne 6, 3) := by decide +kernel
theorem dX11_undo_7 : decode cX11_undo 7 = .ok (.bipush (-3), 2) := by decide +kernel
theorem dX11_undo_9 : decode cX11_undo 9 = .ok (.ireturn, 1) := by decide +kernel
theorem dX11_undo_10 : decode cX11_undo 10 = .ok (.aload_n 0, 1) := by decide +kernel
theorem dX11_undo_11 : decode cX11_undo 11 = .ok (.dup, 1) := by decide +kernel
theorem dX11_undo_12 : decode cX11_undo 12 = .ok (.getfield 90, 3) := by decide +kernel
theorem dX11_undo_15 : decode cX11_undo 15 = .ok (.iconst 1, 1) := by decide +kernel
theorem dX11_undo_16 : decode cX11_undo 16 = .ok (.isub, 1) := by decide +kernel
theorem dX11_undo_17 : decode cX11_undo 17 = .ok (.putfield 90, 3) := by decide +kernel
theorem dX11_undo_20 : decode cX11_undo 20 = .ok (.iconst 0, 1) := by decide +kernel
theorem dX11_undo_21 : decode cX11_undo 21 = .ok (.istore_n 1, 1) := by decide +kernel
theorem dX11_undo_22 : decode cX11_undo 22 = .ok (.iload_n 1, 1) := by decide +kernel
theorem dX11_undo_23 : decode cX11_undo 23 = .ok (.sipush 1748, 3) := by decide +kernel
theorem dX11_undo_26 : decode cX11_undo 26 = .ok (.if_icmp .ge 30, 3) := by decide +kernel
theorem dX11_undo_29 : decode cX11_undo 29 = .ok (.aload_n 0, 1) := by decide +kernel
theorem dX11_undo_30 : decode cX11_undo 30 = .ok (.getfield 7, 3) := by decide +kernel
theorem dX11_undo_33 : decode cX11_undo 33 = .ok (.iload_n 1, 1) := by decide +kernel
theorem dX11_undo_34 : decode cX11_undo 34 = .ok (.aload_n 0, 1) := by decide +kernel
theorem dX11_undo_35 : decode cX11_undo 35 = .ok (.getfield 16, 3) := by decide +kernel
theorem dX11_undo_38 : decode cX11_undo 38 = .ok (.sipush 1748, 3) := by decide +kernel
theorem dX11_undo_41 : decode cX11_undo 41 = .ok (.aload_n 0, 1) := by decide +kernel
theorem dX11_undo_42 : decode cX11_undo 42 = .ok (.getfield 90, 3) := by decide +kernel
theorem dX11_undo_45 : decode cX11_undo 45 = .ok (.imul, 1) := by decide +kernel
theorem dX11_undo_46 : decode cX11_undo 46 = .ok (.iload_n 1, 1) := by decide +kernel
theorem dX11_undo_47 : decode cX11_undo 47 = .ok (.iadd, 1) := by decide +kernel
theorem dX11_undo_48 : decode cX11_undo 48 = .ok (.iaload, 1) := by decide +kernel
theorem dX11_undo_49 : decode cX11_undo 49 = .ok (.iastore, 1) := by decide +kernel
theorem dX11_undo_50 : decode cX11_undo 50 = .ok (.iinc 1 1, 3) := by decide +kernel
theorem dX11_undo_53 : decode cX11_undo 53 = .ok (.goto (-31), 3) := by decide +kernel
theorem dX11_undo_56 : decode cX11_undo 56 = .ok (.aload_n 0, 1) := by decide +kernel
theorem dX11_undo_57 : decode cX11_undo 57 = .ok (.getfield 90, 3) := by decide +kernel
theorem dX11_undo_60 : decode cX11_undo 60 = .ok (.ireturn, 1) := by decide +kernel
theorem dX11_append_0 : decode cX11_append 0 = .ok (.iload_n 1, 1) := by decide +kernel
theorem dX11_append_1 : decode cX11_append 1 = .ok (.bipush 32, 2) := by decide +kernel
theorem dX11_append_3 : decode cX11_append 3 = .ok (.bipush 126, 2) := by decide +kernel
theorem dX11_append_5 : decode cX11_append 5 = .ok (.invokestatic 86, 3) := by decide +kernel
theorem dX11_append_8 : decode cX11_append 8 = .ok (.ifCond .ne 5, 3) := by decide +kernel
theorem dX11_append_11 : decode cX11_append 11 = .ok (.iconst (-1), 1) := by decide +kernel
theorem dX11_append_12 : decode cX11_append 12 = .ok (.ireturn, 1) := by decide +kernel
theorem dX11_append_13 : decode cX11_append 13 = .ok (.aload_n 0, 1) := by decide +kernel
theorem dX11_append_14 : decode cX11_append 14 = .ok (.getfield 104, 3) := by decide +kernel
theorem dX11_append_17 : decode cX11_append 17 = .ok (.sipush 160, 3) := by decide +kernel
theorem dX11_append_20 : decode cX11_append 20 = .ok (.if_icmp .ne 6, 3) := by decide +kernel
theorem dX11_append_23 : decode cX11_append 23 = .ok (.bipush (-2), 2) := by decide +kernel
theorem dX11_append_25 : decode cX11_append 25 = .ok (.ireturn, 1) := by decide +kernel
theorem dX11_append_26 : decode cX11_append 26 = .ok (.aload_n 0, 1) := by decide +kernel
theorem dX11_append_27 : decode cX11_append 27 = .ok (.getfield 26, 3) := by decide +kernel
theorem dX11_append_30 : decode cX11_append 30 = .ok (.aload_n 0, 1) := by decide +kernel
theorem dX11_append_31 : decode cX11_append 31 = .ok (.getfield 104, 3) := by decide +kernel
theorem dX11_append_34 : decode cX11_append 34 = .ok (.iload_n 1, 1) := by decide +kernel
theorem dX11_append_35 : decode cX11_append 35 = .ok (.iastore, 1) := by decide +kernel
theorem dX11_append_36 : decode cX11_append 36 = .ok (.aload_n 0, 1) := by decide +kernel
theorem dX11_append_37 : decode cX11_append 37 = .ok (.dup, 1) := by decide +kernel
theorem dX11_append_38 : decode cX11_append 38 = .ok (.getfield 104, 3) := by decide +kernel
theorem dX11_append_41 : decode cX11_append 41 = .ok (.iconst 1, 1) := by decide +kernel
theorem dX11_append_42 : decode cX11_append 42 = .ok (.iadd, 1) := by decide +kernel
theorem dX11_append_43 : decode cX11_append 43 = .ok (.putfield 104, 3) := by decide +kernel
theorem dX11_append_46 : decode cX11_append 46 = .ok (.aload_n 0, 1) := by decide +kernel
theorem dX11_append_47 : decode cX11_append 47 = .ok (.getfield 104, 3) := by decide +kernel
theorem dX11_append_50 : decode cX11_append 50 = .ok (.ireturn, 1) := by decide +kernel
theorem dX11_clearText_0 : decode cX11_clearText 0 = .ok (.aload_n 0, 1) := by decide +kernel
theorem dX11_clearText_1 : decode cX11_clearText 1 = .ok (.getfield 104, 3) := by decide +kernel
theorem dX11_clearText_4 : decode cX11_clearText 4 = .ok (.istore_n 1, 1) := by decide +kernel
theorem dX11_clearText_5 : decode cX11_clearText 5 = .ok (.aload_n 0, 1) := by decide +kernel
theorem dX11_clearText_6 : decode cX11_clearText 6 = .ok (.iconst 0, 1) := by decide +kernel
theorem dX11_clearText_7 : decode cX11_clearText 7 = .ok (.putfield 104, 3) := by decide +kernel
theorem dX11_clearText_10 : decode cX11_clearText 10 = .ok (.iload_n 1, 1) := by decide +kernel
theorem dX11_clearText_11 : decode cX11_clearText 11 = .ok (.ireturn, 1) := by decide +kernel
theorem dX11_faultOf_0 : decode cX11_faultOf 0 = .ok (.aload_n 0, 1) := by decide +kernel
theorem dX11_faultOf_1 : decode cX11_faultOf 1 = .ok (.iconst 0, 1) := by decide +kernel
theorem dX11_faultOf_2 : decode cX11_faultOf 2 = .ok (.putfield 107, 3) := by decide +kernel
theorem dX11_faultOf_5 : decode cX11_faultOf 5 = .ok (.iconst 0, 1) := by decide +kernel
theorem dX11_faultOf_6 : decode cX11_faultOf 6 = .ok (.istore_n 1, 1) := by decide +kernel
theorem dX11_faultOf_7 : decode cX11_faultOf 7 = .ok (.iconst 0, 1) := by decide +kernel
theorem dX11_faultOf_8 : decode cX11_faultOf 8 = .ok (.istore_n 2, 1) := by decide +kernel
theorem dX11_faultOf_9 : decode cX11_faultOf 9 = .ok (.iconst 0, 1) := by decide +kernel
theorem dX11_faultOf_10 : decode cX11_faultOf 10 = .ok (.istore_n 3, 1) := by decide +kernel
theorem dX11_faultOf_11 : decode cX11_faultOf 11 = .ok (.iconst 0, 1) := by decide +kernel
theorem dX11_faultOf_12 : decode cX11_faultOf 12 = .ok (.istore 4, 2) := by decide +kernel
theorem dX11_faultOf_14 : decode cX11_faultOf 14 = .ok (.iload 4, 2) := by decide +kernel
theorem dX11_faultOf_16 : decode cX11_faultOf 16 = .ok (.aload_n 0, 1) := by decide +kernel
theorem dX11_faultOf_17 : decode cX11_faultOf 17 = .ok (.getfield 104, 3) := by decide +kernel
theorem dX11_faultOf_20 : decode cX11_faultOf 20 = .ok (.if_icmp .ge 134, 3) := by decide +kernel
theorem dX11_faultOf_23 : decode cX11_faultOf 23 = .ok (.aload_n 0, 1) := by decide +kernel
theorem dX11_faultOf_24 : decode cX11_faultOf 24 = .ok (.getfield 26, 3) := by decide +kernel
theorem dX11_faultOf_27 : decode cX11_faultOf 27 = .ok (.iload 4, 2) := by decide +kernel
theorem dX11_faultOf_29 : decode cX11_faultOf 29 = .ok (.iaload, 1) := by decide +kernel
theorem dX11_faultOf_30 : decode cX11_faultOf 30 = .ok (.istore 5, 2) := by decide +kernel
theorem dX11_faultOf_32 : decode cX11_faultOf 32 = .ok (.iload_n 1, 1) := by decide +kernel
theorem dX11_faultOf_33 : decode cX11_faultOf 33 = .ok (.ifCond .le 16, 3) := by decide +kernel
theorem dX11_faultOf_36 : decode cX11_faultOf 36 = .ok (.iload_n 2, 1) := by decide +kernel
theorem dX11_faultOf_37 : decode cX11_faultOf 37 = .ok (.ifCond .eq 8, 3) := by decide +kernel
theorem dX11_faultOf_40 : decode cX11_faultOf 40 = .ok (.iload_n 1, 1) := by decide +kernel
theorem dX11_faultOf_41 : decode cX11_faultOf 41 = .ok (.iload_n 3, 1) := by decide +kernel
theorem dX11_faultOf_42 : decode cX11_faultOf 42 = .ok (.if_icmp .ne 7, 3) := by decide +kernel
theorem dX11_faultOf_45 : decode cX11_faultOf 45 = .ok (.iconst 1, 1) := by decide +kernel
theorem dX11_faultOf_46 : decode cX11_faultOf 46 = .ok (.goto 4, 3) := by decide +kernel
theorem dX11_faultOf_49 : decode cX11_faultOf 49 = .ok (.iconst 0, 1) := by decide +kernel
theorem dX11_faultOf_50 : decode cX11_faultOf 50 = .ok (.istore 6, 2) := by decide +kernel
theorem dX11_faultOf_52 : decode cX11_faultOf 52 = .ok (.iload 5, 2) := by decide +kernel
theorem dX11_faultOf_54 : decode cX11_faultOf 54 = .ok (.bipush 48, 2) := by decide +kernel
theorem dX11_faultOf_56 : decode cX11_faultOf 56 = .ok (.bipush 57, 2) := by decide +kernel
theorem dX11_faultOf_58 : decode cX11_faultOf 58 = .ok (.invokestatic 86, 3) := by decide +kernel
theorem dX11_faultOf_61 : decode cX11_faultOf 61 = .ok (.ifCond .eq 27, 3) := by decide +kernel
theorem dX11_faultOf_64 : decode cX11_faultOf 64 = .ok (.iload_n 1, 1) := by decide +kernel
theorem dX11_faultOf_65 : decode cX11_faultOf 65 = .ok (.bipush 8, 2) := by decide +kernel
theorem dX11_faultOf_67 : decode cX11_faultOf 67 = .ok (.if_icmp .eq 12, 3) := by decide +kernel
theorem dX11_faultOf_70 : decode cX11_faultOf 70 = .ok (.iload_n 2, 1) := by decide +kernel
theorem dX11_faultOf_71 : decode cX11_faultOf 71 = .ok (.ifCond .le 11, 3) := by decide +kernel
theorem dX11_faultOf_74 : decode cX11_faultOf 74 = .ok (.iload_n 1, 1) := by decide +kernel
theorem dX11_faultOf_75 : decode cX11_faultOf 75 = .ok (.iload_n 3, 1) := by decide +kernel
theorem dX11_faultOf_76 : decode cX11_faultOf 76 = .ok (.if_icmp .ne 6, 3) := by decide +kernel
theorem dX11_faultOf_79 : decode cX11_faultOf 79 = .ok (.iload 4, 2) := by decide +kernel
theorem dX11_faultOf_81 : decode cX11_faultOf 81 = .ok (.ireturn, 1) := by decide +kernel
theorem dX11_faultOf_82 : decode cX11_faultOf 82 = .ok (.iinc 1 1, 3) := by decide +kernel
theorem dX11_faultOf_85 : decode cX11_faultOf 85 = .ok (.goto 63, 3) := by decide +kernel
theorem dX11_faultOf_88 : decode cX11_faultOf 88 = .ok (.iload 5, 2) := by decide +kernel
theorem dX11_faultOf_90 : decode cX11_faultOf 90 = .ok (.bipush 47, 2) := by decide +kernel
theorem dX11_faultOf_92 : decode cX11_faultOf 92 = .ok (.if_icmp .ne 24, 3) := by decide +kernel
theorem dX11_faultOf_95 : decode cX11_faultOf 95 = .ok (.iload 6, 2) := by decide +kernel
theorem dX11_faultOf_97 : decode cX11_faultOf 97 = .ok (.ifCond .eq 19, 3) := by decide +kernel
theorem dX11_faultOf_100 : decode cX11_faultOf 100 = .ok (.iload_n 2, 1) := by decide +kernel
theorem dX11_faultOf_101 : decode cX11_faultOf 101 = .ok (.bipush 7, 2) := by decide +kernel
theorem dX11_faultOf_103 : decode cX11_faultOf 103 = .ok (.if_icmp .ge 13, 3) := by decide +kernel
theorem dX11_faultOf_106 : decode cX11_faultOf 106 = .ok (.iload_n 1, 1) := by decide +kernel
theorem dX11_faultOf_107 : decode cX11_faultOf 107 = .ok (.istore_n 3, 1) := by decide +kernel
theorem dX11_faultOf_108 : decode cX11_faultOf 108 = .ok (.iconst 0, 1) := by decide +kernel
theorem dX11_faultOf_109 : decode cX11_faultOf 109 = .ok (.istore_n 1, 1) := by decide +kernel
theorem dX11_faultOf_110 : decode cX11_faultOf 110 = .ok (.iinc 2 1, 3) := by decide +kernel
theorem dX11_faultOf_113 : decode cX11_faultOf 113 = .ok (.goto 35, 3) := by decide +kernel
theorem dX11_faultOf_116 : decode cX11_faultOf 116 = .ok (.iload 5, 2) := by decide +kernel
theorem dX11_faultOf_118 : decode cX11_faultOf 118 = .ok (.bipush 59, 2) := by decide +kernel
theorem dX11_faultOf_120 : decode cX11_faultOf 120 = .ok (.if_icmp .ne 25, 3) := by decide +kernel
theorem dX11_faultOf_123 : decode cX11_faultOf 123 = .ok (.iload 6, 2) := by decide +kernel
theorem dX11_faultOf_125 : decode cX11_faultOf 125 = .ok (.ifCond .eq 20, 3) := by decide +kernel
theorem dX11_faultOf_128 : decode cX11_faultOf 128 = .ok (.aload_n 0, 1) := by decide +kernel
theorem dX11_faultOf_129 : decode cX11_faultOf 129 = .ok (.dup, 1) := by decide +kernel
theorem dX11_faultOf_130 : decode cX11_faultOf 130 = .ok (.getfield 107, 3) := by decide +kernel
theorem dX11_faultOf_133 : decode cX11_faultOf 133 = .ok (.iconst 1, 1) := by decide +kernel
theorem dX11_faultOf_134 : decode cX11_faultOf 134 = .ok (.iadd, 1) := by decide +kernel
theorem dX11_faultOf_135 : decode cX11_faultOf 135 = .ok (.putfield 107, 3) := by decide +kernel
theorem dX11_faultOf_138 : decode cX11_faultOf 138 = .ok (.iconst 0, 1) := by decide +kernel
theorem dX11_faultOf_139 : decode cX11_faultOf 139 = .ok (.istore_n 1, 1) := by decide +kernel
theorem dX11_faultOf_140 : decode cX11_faultOf 140 = .ok (.iconst 0, 1) := by decide +kernel
theorem dX11_faultOf_141 : decode cX11_faultOf 141 = .ok (.istore_n 2, 1) := by decide +kernel
theorem dX11_faultOf_142 : decode cX11_faultOf 142 = .ok (.goto 6, 3) := by decide +kernel
theorem dX11_faultOf_145 : decode cX11_faultOf 145 = .ok (.iload 4, 2) := by decide +kernel
theorem dX11_faultOf_147 : decode cX11_faultOf 147 = .ok (.ireturn, 1) := by decide +kernel
theorem dX11_faultOf_148 : decode cX11_faultOf 148 = .ok (.iinc 4 1, 3) := by decide +kernel
theorem dX11_faultOf_151 : decode cX11_faultOf 151 = .ok (.goto (-137), 3) := by decide +kernel
theorem dX11_faultOf_154 : decode cX11_faultOf 154 = .ok (.iload_n 1, 1) := by decide +kernel
theorem dX11_faultOf_155 : decode cX11_faultOf 155 = .ok (.ifCond .gt 7, 3) := by decide +kernel
theorem dX11_faultOf_158 : decode cX11_faultOf 158 = .ok (.iload_n 2, 1) := by decide +kernel
theorem dX11_faultOf_159 : decode cX11_faultOf 159 = .ok (.ifCond .le 10, 3) := by decide +kernel
theorem dX11_faultOf_162 : decode cX11_faultOf 162 = .ok (.aload_n 0, 1) := by decide +kernel
theorem dX11_faultOf_163 : decode cX11_faultOf 163 = .ok (.getfield 104, 3) := by decide +kernel
theorem dX11_faultOf_166 : decode cX11_faultOf 166 = .ok (.goto 4, 3) := by decide +kernel
theorem dX11_faultOf_169 : decode cX11_faultOf 169 = .ok (.iconst (-1), 1) := by decide +kernel
theorem dX11_faultOf_170 : decode cX11_faultOf 170 = .ok (.ireturn, 1) := by decide +kernel
theorem dX11_faultPosition_0 : decode cX11_faultPosition 0 = .ok (.aload_n 0, 1) := by decide +kernel
theorem dX11_faultPosition_1 : decode cX11_faultPosition 1 = .ok (.invokevirtual 110, 3) := by decide +kernel
theorem dX11_faultPosition_4 : decode cX11_faultPosition 4 = .ok (.istore_n 1, 1) := by decide +kernel
theorem dX11_faultPosition_5 : decode cX11_faultPosition 5 = .ok (.iload_n 1, 1) := by decide +kernel
theorem dX11_faultPosition_6 : decode cX11_faultPosition 6 = .ok (.ifCond .ge 8, 3) := by decide +kernel
theorem dX11_faultPosition_9 : decode cX11_faultPosition 9 = .ok (.bipush (-4), 2) := by decide +kernel
theorem dX11_faultPosition_11 : decode cX11_faultPosition 11 = .ok (.goto 4, 3) := by decide +kernel
theorem dX11_faultPosition_14 : decode cX11_faultPosition 14 = .ok (.iload_n 1, 1) := by decide +kernel
theorem dX11_faultPosition_15 : decode cX11_faultPosition 15 = .ok (.ireturn, 1) := by decide +kernel
theorem dX11_adds_0 : decode cX11_adds 0 = .ok (.aload_n 0, 1) := by decide +kernel
theorem dX11_adds_1 : decode cX11_adds 1 = .ok (.getfield 7, 3) := by decide +kernel
theorem dX11_adds_4 : decode cX11_adds 4 = .ok (.iconst 0, 1) := by decide +kernel
theorem dX11_adds_5 : decode cX11_adds 5 = .ok (.iaload, 1) := by decide +kernel
theorem dX11_adds_6 : decode cX11_adds 6 = .ok (.istore_n 3, 1) := by decide +kernel
theorem dX11_adds_7 : decode cX11_adds 7 = .ok (.aload_n 0, 1) := by decide +kernel
theorem dX11_adds_8 : decode cX11_adds 8 = .ok (.getfield 7, 3) := by decide +kernel
theorem dX11_adds_11 : decode cX11_adds 11 = .ok (.iconst 0, 1) := by decide +kernel
theorem dX11_adds_12 : decode cX11_adds 12 = .ok (.dup2, 1) := by decide +kernel
theorem dX11_adds_13 : decode cX11_adds 13 = .ok (.iaload, 1) := by decide +kernel
theorem dX11_adds_14 : decode cX11_adds 14 = .ok (.iconst 1, 1) := by decide +kernel
theorem dX11_adds_15 : decode cX11_adds 15 = .ok (.iadd, 1) := by decide +kernel
theorem dX11_adds_16 : decode cX11_adds 16 = .ok (.iastore, 1) := by decide +kernel
theorem dX11_adds_17 : decode cX11_adds 17 = .ok (.aload_n 0, 1) := by decide +kernel
theorem dX11_adds_18 : decode cX11_adds 18 = .ok (.getfield 7, 3) := by decide +kernel
theorem dX11_adds_21 : decode cX11_adds 21 = .ok (.iload_n 3, 1) := by decide +kernel
theorem dX11_adds_22 : decode cX11_adds 22 = .ok (.iconst 0, 1) := by decide +kernel
theorem dX11_adds_23 : decode cX11_adds 23 = .ok (.invokestatic 94, 3) := by decide +kernel
theorem dX11_adds_26 : decode cX11_adds 26 = .ok (.iload_n 1, 1) := by decide +kernel
theorem dX11_adds_27 : decode cX11_adds 27 = .ok (.iastore, 1) := by decide +kernel
theorem dX11_adds_28 : decode cX11_adds 28 = .ok (.aload_n 0, 1) := by decide +kernel
theorem dX11_adds_29 : decode cX11_adds 29 = .ok (.getfield 7, 3) := by decide +kernel
theorem dX11_adds_32 : decode cX11_adds 32 = .ok (.iload_n 3, 1) := by decide +kernel
theorem dX11_adds_33 : decode cX11_adds 33 = .ok (.iconst 1, 1) := by decide +kernel
theorem dX11_adds_34 : decode cX11_adds 34 = .ok (.invokestatic 94, 3) := by decide +kernel
theorem dX11_adds_37 : decode cX11_adds 37 = .ok (.iload_n 2, 1) := by decide +kernel
theorem dX11_adds_38 : decode cX11_adds 38 = .ok (.iastore, 1) := by decide +kernel
theorem dX11_adds_39 : decode cX11_adds 39 = .ok (.aload_n 0, 1) := by decide +kernel
theorem dX11_adds_40 : decode cX11_adds 40 = .ok (.getfield 7, 3) := by decide +kernel
theorem dX11_adds_43 : decode cX11_adds 43 = .ok (.iload_n 3, 1) := by decide +kernel
theorem dX11_adds_44 : decode cX11_adds 44 = .ok (.iconst 2, 1) := by decide +kernel
theorem dX11_adds_45 : decode cX11_adds 45 = .ok (.invokestatic 94, 3) := by decide +kernel
theorem dX11_adds_48 : decode cX11_adds 48 = .ok (.iconst 0, 1) := by decide +kernel
theorem dX11_adds_49 : decode cX11_adds 49 = .ok (.iastore, 1) := by decide +kernel
theorem dX11_adds_50 : decode cX11_adds 50 = .ok (.aload_n 0, 1) := by decide +kernel
theorem dX11_adds_51 : decode cX11_adds 51 = .ok (.getfield 7, 3) := by decide +kernel
theorem dX11_adds_54 : decode cX11_adds 54 = .ok (.iload_n 3, 1) := by decide +kernel
theorem dX11_adds_55 : decode cX11_adds 55 = .ok (.iconst 3, 1) := by decide +kernel
theorem dX11_adds_56 : decode cX11_adds 56 = .ok (.invokestatic 94, 3) := by decide +kernel
theorem dX11_adds_59 : decode cX11_adds 59 = .ok (.iconst (-1), 1) := by decide +kernel
theorem dX11_adds_60 : decode cX11_adds 60 = .ok (.iastore, 1) := by decide +kernel
theorem dX11_adds_61 : decode cX11_adds 61 = .ok (.aload_n 0, 1) := by decide +kernel
theorem dX11_adds_62 : decode cX11_adds 62 = .ok (.getfield 7, 3) := by decide +kernel
theorem dX11_adds_65 : decode cX11_adds 65 = .ok (.iload_n 3, 1) := by decide +kernel
theorem dX11_adds_66 : decode cX11_adds 66 = .ok (.iconst 4, 1) := by decide +kernel
theorem dX11_adds_67 : decode cX11_adds 67 = .ok (.invokestatic 94, 3) := by decide +kernel
theorem dX11_adds_70 : decode cX11_adds 70 = .ok (.iconst 0, 1) := by decide +kernel
theorem dX11_adds_71 : decode cX11_adds 71 = .ok (.iastore, 1) := by decide +kernel
theorem dX11_adds_72 : decode cX11_adds 72 = .ok (.aload_n 0, 1) := by decide +kernel
theorem dX11_adds_73 : decode cX11_adds 73 = .ok (.getfield 7, 3) := by decide +kernel
theorem dX11_adds_76 : decode cX11_adds 76 = .ok (.iload_n 3, 1) := by decide +kernel
theorem dX11_adds_77 : decode cX11_adds 77 = .ok (.iconst 5, 1) := by decide +kernel
theorem dX11_adds_78 : decode cX11_adds 78 = .ok (.invokestatic 94, 3) := by decide +kernel
theorem dX11_adds_81 : decode cX11_adds 81 = .ok (.iconst 0, 1) := by decide +kernel
theorem dX11_adds_82 : decode cX11_adds 82 = .ok (.iastore, 1) := by decide +kernel
theorem dX11_adds_83 : decode cX11_adds 83 = .ok (.aload_n 0, 1) := by decide +kernel
theorem dX11_adds_84 : decode cX11_adds 84 = .ok (.getfield 7, 3) := by decide +kernel
theorem dX11_adds_87 : decode cX11_adds 87 = .ok (.iload_n 3, 1) := by decide +kernel
theorem dX11_adds_88 : decode cX11_adds 88 = .ok (.bipush 6, 2) := by decide +kernel
theorem dX11_adds_90 : decode cX11_adds 90 = .ok (.invokestatic 94, 3) := by decide +kernel
theorem dX11_adds_93 : decode cX11_adds 93 = .ok (.iconst 0, 1) := by decide +kernel
theorem dX11_adds_94 : decode cX11_adds 94 = .ok (.iastore, 1) := by decide +kernel
theorem dX11_adds_95 : decode cX11_adds 95 = .ok (.iconst 0, 1) := by decide +kernel
theorem dX11_adds_96 : decode cX11_adds 96 = .ok (.istore 4, 2) := by decide +kernel
theorem dX11_adds_98 : decode cX11_adds 98 = .ok (.iload 4, 2) := by decide +kernel
theorem dX11_adds_100 : decode cX11_adds 100 = .ok (.bipush 64, 2) := by decide +kernel
theorem dX11_adds_102 : decode cX11_adds 102 = .ok (.if_icmp .ge 24, 3) := by decide +kernel
theorem dX11_adds_105 : decode cX11_adds 105 = .ok (.aload_n 0, 1) := by decide +kernel
theorem dX11_adds_106 : decode cX11_adds 106 = .ok (.getfield 7, 3) := by decide +kernel
theorem dX11_adds_109 : decode cX11_adds 109 = .ok (.iload_n 3, 1) := by decide +kernel
theorem dX11_adds_110 : decode cX11_adds 110 = .ok (.bipush 8, 2) := by decide +kernel
theorem dX11_adds_112 : decode cX11_adds 112 = .ok (.iload 4, 2) := by decide +kernel
theorem dX11_adds_114 : decode cX11_adds 114 = .ok (.iadd, 1) := by decide +kernel
theorem dX11_adds_115 : decode cX11_adds 115 = .ok (.invokestatic 94, 3) := by decide +kernel
theorem dX11_adds_118 : decode cX11_adds 118 = .ok (.iconst 0, 1) := by decide +kernel
theorem dX11_adds_119 : decode cX11_adds 119 = .ok (.iastore, 1) := by decide +kernel
theorem dX11_adds_120 : decode cX11_adds 120 = .ok (.iinc 4 1, 3) := by decide +kernel
theorem dX11_adds_123 : decode cX11_adds 123 = .ok (.goto (-25), 3) := by decide +kernel
theorem dX11_adds_126 : decode cX11_adds 126 = .ok (.return_, 1) := by decide +kernel
theorem dX11_read_0 : decode cX11_read 0 = .ok (.aload_n 0, 1) := by decide +kernel
theorem dX11_read_1 : decode cX11_read 1 = .ok (.invokevirtual 110, 3) := by decide +kernel
theorem dX11_read_4 : decode cX11_read 4 = .ok (.ifCond .lt 6, 3) := by decide +kernel
theorem dX11_read_7 : decode cX11_read 7 = .ok (.bipush (-3), 2) := by decide +kernel
theorem dX11_read_9 : decode cX11_read 9 = .ok (.ireturn, 1) := by decide +kernel
theorem dX11_read_10 : decode cX11_read 10 = .ok (.aload_n 0, 1) := by decide +kernel
theorem dX11_read_11 : decode cX11_read 11 = .ok (.getfield 7, 3) := by decide +kernel
theorem dX11_read_14 : decode cX11_read 14 = .ok (.iconst 0, 1) := by decide +kernel
theorem dX11_read_15 : decode cX11_read 15 = .ok (.iaload, 1) := by decide +kernel
theorem dX11_read_16 : decode cX11_read 16 = .ok (.aload_n 0, 1) := by decide +kernel
theorem dX11_read_17 : decode cX11_read 17 = .ok (.getfield 107, 3) := by decide +kernel
theorem dX11_read_20 : decode cX11_read 20 = .ok (.iadd, 1) := by decide +kernel
theorem dX11_read_21 : decode cX11_read 21 = .ok (.bipush 24, 2) := by decide +kernel
theorem dX11_read_23 : decode cX11_read 23 = .ok (.if_icmp .le 6, 3) := by decide +kernel
theorem dX11_read_26 : decode cX11_read 26 = .ok (.bipush (-2), 2) := by decide +kernel
theorem dX11_read_28 : decode cX11_read 28 = .ok (.ireturn, 1) := by decide +kernel
theorem dX11_read_29 : decode cX11_read 29 = .ok (.aload_n 0, 1) := by decide +kernel
theorem dX11_read_30 : decode cX11_read 30 = .ok (.invokevirtual 98, 3) := by decide +kernel
theorem dX11_read_33 : decode cX11_read 33 = .ok (.iconst 0, 1) := by decide +kernel
theorem dX11_read_34 : decode cX11_read 34 = .ok (.istore_n 1, 1) := by decide +kernel
theorem dX11_read_35 : decode cX11_read 35 = .ok (.iconst 0, 1) := by decide +kernel
theorem dX11_read_36 : decode cX11_read 36 = .ok (.istore_n 2, 1) := by decide +kernel
theorem dX11_read_37 : decode cX11_read 37 = .ok (.iconst 0, 1) := by decide +kernel
theorem dX11_read_38 : decode cX11_read 38 = .ok (.istore_n 3, 1) := by decide +kernel
theorem dX11_read_39 : decode cX11_read 39 = .ok (.iload_n 3, 1) := by decide +kernel
theorem dX11_read_40 : decode cX11_read 40 = .ok (.aload_n 0, 1) := by decide +kernel
theorem dX11_read_41 : decode cX11_read 41 = .ok (.getfield 104, 3) := by decide +kernel
theorem dX11_read_44 : decode cX11_read 44 = .ok (.if_icmp .ge 116, 3) := by decide +kernel
theorem dX11_read_47 : decode cX11_read 47 = .ok (.aload_n 0, 1) := by decide +kernel
theorem dX11_read_48 : decode cX11_read 48 = .ok (.getfield 26, 3) := by decide +kernel
theorem dX11_read_51 : decode cX11_read 51 = .ok (.iload_n 3, 1) := by decide +kernel
theorem dX11_read_52 : decode cX11_read 52 = .ok (.iaload, 1) := by decide +kernel
theorem dX11_read_53 : decode cX11_read 53 = .ok (.istore 4, 2) := by decide +kernel
theorem dX11_read_55 : decode cX11_read 55 = .ok (.iload_n 1, 1) := by decide +kernel
theorem dX11_read_56 : decode cX11_read 56 = .ok (.ifCond .ne 13, 3) := by decide +kernel
theorem dX11_read_59 : decode cX11_read 59 = .ok (.iload_n 2, 1) := by decide +kernel
theorem dX11_read_60 : decode cX11_read 60 = .ok (.ifCond .ne 9, 3) := by decide +kernel
theorem dX11_read_63 : decode cX11_read 63 = .ok (.aload_n 0, 1) := by decide +kernel
theorem dX11_read_64 : decode cX11_read 64 = .ok (.iconst 0, 1) := by decide +kernel
theorem dX11_read_65 : decode cX11_read 65 = .ok (.iconst 0, 1) := by decide +kernel
theorem dX11_read_66 : decode cX11_read 66 = .ok (.invokevirtual 114, 3) := by decide +kernel
theorem dX11_read_69 : decode cX11_read 69 = .ok (.aload_n 0, 1) := by decide +kernel
theorem dX11_read_70 : decode cX11_read 70 = .ok (.getfield 7, 3) := by decide +kernel
theorem dX11_read_73 : decode cX11_read 73 = .ok (.iconst 0, 1) := by decide +kernel
theorem dX11_read_74 : decode cX11_read 74 = .ok (.iaload, 1) := by decide +kernel
theorem dX11_read_75 : decode cX11_read 75 = .ok (.iconst 1, 1) := by decide +kernel
theorem dX11_read_76 : decode cX11_read 76 = .ok (.isub, 1) := by decide +kernel
theorem dX11_read_77 : decode cX11_read 77 = .ok (.istore 5, 2) := by decide +kernel
theorem dX11_read_79 : decode cX11_read 79 = .ok (.iload 4, 2) := by decide +kernel
theorem dX11_read_81 : decode cX11_read 81 = .ok (.bipush 59, 2) := by decide +kernel
theorem dX11_read_83 : decode cX11_read 83 = .ok (.if_icmp .ne 24, 3) := by decide +kernel
theorem dX11_read_86 : decode cX11_read 86 = .ok (.aload_n 0, 1) := by decide +kernel
theorem dX11_read_87 : decode cX11_read 87 = .ok (.getfield 7, 3) := by decide +kernel
theorem dX11_read_90 : decode cX11_read 90 = .ok (.iload 5, 2) := by decide +kernel
theorem dX11_read_92 : decode cX11_read 92 = .ok (.iconst 1, 1) := by decide +kernel
theorem dX11_read_93 : decode cX11_read 93 = .ok (.invokestatic 94, 3) := by decide +kernel
theorem dX11_read_96 : decode cX11_read 96 = .ok (.iload_n 2, 1) := by decide +kernel
theorem dX11_read_97 : decode cX11_read 97 = .ok (.iconst 1, 1) := by decide +kernel
theorem dX11_read_98 : decode cX11_read 98 = .ok (.iadd, 1) := by decide +kernel
theorem dX11_read_99 : decode cX11_read 99 = .ok (.iastore, 1) := by decide +kernel
theorem dX11_read_100 : decode cX11_read 100 = .ok (.iconst 0, 1) := by decide +kernel
theorem dX11_read_101 : decode cX11_read 101 = .ok (.istore_n 1, 1) := by decide +kernel
theorem dX11_read_102 : decode cX11_read 102 = .ok (.iconst 0, 1) := by decide +kernel
theorem dX11_read_103 : decode cX11_read 103 = .ok (.istore_n 2, 1) := by decide +kernel
theorem dX11_read_104 : decode cX11_read 104 = .ok (.goto 50, 3) := by decide +kernel
theorem dX11_read_107 : decode cX11_read 107 = .ok (.iload 4, 2) := by decide +kernel
theorem dX11_read_109 : decode cX11_read 109 = .ok (.bipush 47, 2) := by decide +kernel
theorem dX11_read_111 : decode cX11_read 111 = .ok (.if_icmp .ne 11, 3) := by decide +kernel
theorem dX11_read_114 : decode cX11_read 114 = .ok (.iconst 0, 1) := by decide +kernel
theorem dX11_read_115 : decode cX11_read 115 = .ok (.istore_n 1, 1) := by decide +kernel
theorem dX11_read_116 : decode cX11_read 116 = .ok (.iinc 2 1, 3) := by decide +kernel
theorem dX11_read_119 : decode cX11_read 119 = .ok (.goto 35, 3) := by decide +kernel
theorem dX11_read_122 : decode cX11_read 122 = .ok (.aload_n 0, 1) := by decide +kernel
theorem dX11_read_123 : decode cX11_read 123 = .ok (.getfield 7, 3) := by decide +kernel
theorem dX11_read_126 : decode cX11_read 126 = .ok (.iload 5, 2) := by decide +kernel
theorem dX11_read_128 : decode cX11_read 128 = .ok (.iload_n 1, 1) := by decide +kernel
theorem dX11_read_129 : decode cX11_read 129 = .ok (.iload_n 2, 1) := by decide +kernel
theorem dX11_read_130 : decode cX11_read 130 = .ok (.invokestatic 118, 3) := by decide +kernel
theorem dX11_read_133 : decode cX11_read 133 = .ok (.iload 4, 2) := by decide +kernel
theorem dX11_read_135 : decode cX11_read 135 = .ok (.bipush 48, 2) := by decide +kernel
theorem dX11_read_137 : decode cX11_read 137 = .ok (.isub, 1) := by decide +kernel
theorem dX11_read_138 : decode cX11_read 138 = .ok (.iastore, 1) := by decide +kernel
theorem dX11_read_139 : decode cX11_read 139 = .ok (.iinc 1 1, 3) := by decide +kernel
theorem dX11_read_142 : decode cX11_read 142 = .ok (.aload_n 0, 1) := by decide +kernel
theorem dX11_read_143 : decode cX11_read 143 = .ok (.getfield 7, 3) := by decide +kernel
theorem dX11_read_146 : decode cX11_read 146 = .ok (.iload 5, 2) := by decide +kernel
theorem dX11_read_148 : decode cX11_read 148 = .ok (.iconst 0, 1) := by decide +kernel
theorem dX11_read_149 : decode cX11_read 149 = .ok (.invokestatic 94, 3) := by decide +kernel
theorem dX11_read_152 : decode cX11_read 152 = .ok (.iload_n 1, 1) := by decide +kernel
theorem dX11_read_153 : decode cX11_read 153 = .ok (.iastore, 1) := by decide +kernel
theorem dX11_read_154 : decode cX11_read 154 = .ok (.iinc 3 1, 3) := by decide +kernel
theorem dX11_read_157 : decode cX11_read 157 = .ok (.goto (-118), 3) := by decide +kernel
theorem dX11_read_160 : decode cX11_read 160 = .ok (.aload_n 0, 1) := by decide +kernel
theorem dX11_read_161 : decode cX11_read 161 = .ok (.getfield 7, 3) := by decide +kernel
theorem dX11_read_164 : decode cX11_read 164 = .ok (.iconst 0, 1) := by decide +kernel
theorem dX11_read_165 : decode cX11_read 165 = .ok (.iaload, 1) := by decide +kernel
theorem dX11_read_166 : decode cX11_read 166 = .ok (.ireturn, 1) := by decide +kernel
theorem dX11_random_0 : decode cX11_random 0 = .ok (.aload_n 0, 1) := by decide +kernel
theorem dX11_random_1 : decode cX11_random 1 = .ok (.aload_n 0, 1) := by decide +kernel
theorem dX11_random_2 : decode cX11_random 2 = .ok (.getfield 122, 3) := by decide +kernel
theorem dX11_random_5 : decode cX11_random 5 = .ok (.ldc2_w 126, 3) := by decide +kernel
theorem dX11_random_8 : decode cX11_random 8 = .ok (.lmul, 1) := by decide +kernel
theorem dX11_random_9 : decode cX11_random 9 = .ok (.ldc2_w 128, 3) := by decide +kernel
theorem dX11_random_12 : decode cX11_random 12 = .ok (.ladd, 1) := by decide +kernel
theorem dX11_random_13 : decode cX11_random 13 = .ok (.ldc2_w 130, 3) := by decide +kernel
theorem dX11_random_16 : decode cX11_random 16 = .ok (.lrem, 1) := by decide +kernel
theorem dX11_random_17 : decode cX11_random 17 = .ok (.putfield 122, 3) := by decide +kernel
theorem dX11_random_20 : decode cX11_random 20 = .ok (.aload_n 0, 1) := by decide +kernel
theorem dX11_random_21 : decode cX11_random 21 = .ok (.getfield 122, 3) := by decide +kernel
theorem dX11_random_24 : decode cX11_random 24 = .ok (.ldc2_w 132, 3) := by decide +kernel
theorem dX11_random_27 : decode cX11_random 27 = .ok (.ldiv, 1) := by decide +kernel
theorem dX11_random_28 : decode cX11_random 28 = .ok (.l2i, 1) := by decide +kernel
theorem dX11_random_29 : decode cX11_random 29 = .ok (.iload_n 1, 1) := by decide +kernel
theorem dX11_random_30 : decode cX11_random 30 = .ok (.irem, 1) := by decide +kernel
theorem dX11_random_31 : decode cX11_random 31 = .ok (.ireturn, 1) := by decide +kernel
theorem dX11_draw_0 : decode cX11_draw 0 = .ok (.iload_n 1, 1) := by decide +kernel
theorem dX11_draw_1 : decode cX11_draw 1 = .ok (.ifCond .lt 13, 3) := by decide +kernel
theorem dX11_draw_4 : decode cX11_draw 4 = .ok (.iload_n 2, 1) := by decide +kernel
theorem dX11_draw_5 : decode cX11_draw 5 = .ok (.iconst 1, 1) := by decide +kernel
theorem dX11_draw_6 : decode cX11_draw 6 = .ok (.bipush 8, 2) := by decide +kernel
theorem dX11_draw_8 : decode cX11_draw 8 = .ok (.invokestatic 86, 3) := by decide +kernel
theorem dX11_draw_11 : decode cX11_draw 11 = .ok (.ifCond .ne 5, 3) := by decide +kernel
theorem dX11_draw_14 : decode cX11_draw 14 = .ok (.iconst (-1), 1) := by decide +kernel
theorem dX11_draw_15 : decode cX11_draw 15 = .ok (.ireturn, 1) := by decide +kernel
theorem dX11_draw_16 : decode cX11_draw 16 = .ok (.aload_n 0, 1) := by decide +kernel
theorem dX11_draw_17 : decode cX11_draw 17 = .ok (.getfield 7, 3) := by decide +kernel
theorem dX11_draw_20 : decode cX11_draw 20 = .ok (.iconst 0, 1) := by decide +kernel
theorem dX11_draw_21 : decode cX11_draw 21 = .ok (.iaload, 1) := by decide +kernel
theorem dX11_draw_22 : decode cX11_draw 22 = .ok (.iload_n 2, 1) := by decide +kernel
theorem dX11_draw_23 : decode cX11_draw 23 = .ok (.iadd, 1) := by decide +kernel
theorem dX11_draw_24 : decode cX11_draw 24 = .ok (.bipush 24, 2) := by decide +kernel
theorem dX11_draw_26 : decode cX11_draw 26 = .ok (.if_icmp .le 6, 3) := by decide +kernel
theorem dX11_draw_29 : decode cX11_draw 29 = .ok (.bipush (-2), 2) := by decide +kernel
theorem dX11_draw_31 : decode cX11_draw 31 = .ok (.ireturn, 1) := by decide +kernel
theorem dX11_draw_32 : decode cX11_draw 32 = .ok (.aload_n 0, 1) := by decide +kernel
theorem dX11_draw_33 : decode cX11_draw 33 = .ok (.invokevirtual 98, 3) := by decide +kernel
theorem dX11_draw_36 : decode cX11_draw 36 = .ok (.aload_n 0, 1) := by decide +kernel
theorem dX11_draw_37 : decode cX11_draw 37 = .ok (.iload_n 1, 1) := by decide +kernel
theorem dX11_draw_38 : decode cX11_draw 38 = .ok (.i2l, 1) := by decide +kernel
theorem dX11_draw_39 : decode cX11_draw 39 = .ok (.putfield 122, 3) := by decide +kernel
theorem dX11_draw_42 : decode cX11_draw 42 = .ok (.iconst 0, 1) := by decide +kernel
theorem dX11_draw_43 : decode cX11_draw 43 = .ok (.istore_n 3, 1) := by decide +kernel
theorem dX11_draw_44 : decode cX11_draw 44 = .ok (.iload_n 3, 1) := by decide +kernel
theorem dX11_draw_45 : decode cX11_draw 45 = .ok (.iload_n 2, 1) := by decide +kernel
theorem dX11_draw_46 : decode cX11_draw 46 = .ok (.if_icmp .ge 110, 3) := by decide +kernel
theorem dX11_draw_49 : decode cX11_draw 49 = .ok (.aload_n 0, 1) := by decide +kernel
theorem dX11_draw_50 : decode cX11_draw 50 = .ok (.iconst 5, 1) := by decide +kernel
theorem dX11_draw_51 : decode cX11_draw 51 = .ok (.invokevirtual 134, 3) := by decide +kernel
theorem dX11_draw_54 : decode cX11_draw 54 = .ok (.iconst 1, 1) := by decide +kernel
theorem dX11_draw_55 : decode cX11_draw 55 = .ok (.iadd, 1) := by decide +kernel
theorem dX11_draw_56 : decode cX11_draw 56 = .ok (.istore 4, 2) := by decide +kernel
theorem dX11_draw_58 : decode cX11_draw 58 = .ok (.aload_n 0, 1) := by decide +kernel
theorem dX11_draw_59 : decode cX11_draw 59 = .ok (.iconst 5, 1) := by decide +kernel
theorem dX11_draw_60 : decode cX11_draw 60 = .ok (.invokevirtual 134, 3) := by decide +kernel
theorem dX11_draw_63 : decode cX11_draw 63 = .ok (.iconst 1, 1) := by decide +kernel
theorem dX11_draw_64 : decode cX11_draw 64 = .ok (.iadd, 1) := by decide +kernel
theorem dX11_draw_65 : decode cX11_draw 65 = .ok (.istore 5, 2) := by decide +kernel
theorem dX11_draw_67 : decode cX11_draw 67 = .ok (.aload_n 0, 1) := by decide +kernel
theorem dX11_draw_68 : decode cX11_draw 68 = .ok (.getfield 7, 3) := by decide +kernel
theorem dX11_draw_71 : decode cX11_draw 71 = .ok (.iconst 0, 1) := by decide +kernel
theorem dX11_draw_72 : decode cX11_draw 72 = .ok (.iaload, 1) := by decide +kernel
theorem dX11_draw_73 : decode cX11_draw 73 = .ok (.istore 6, 2) := by decide +kernel
theorem dX11_draw_75 : decode cX11_draw 75 = .ok (.aload_n 0, 1) := by decide +kernel
theorem dX11_draw_76 : decode cX11_draw 76 = .ok (.iload 4, 2) := by decide +kernel
theorem dX11_draw_78 : decode cX11_draw 78 = .ok (.iload 5, 2) := by decide +kernel
theorem dX11_draw_80 : decode cX11_draw 80 = .ok (.invokevirtual 114, 3) := by decide +kernel
theorem dX11_draw_83 : decode cX11_draw 83 = .ok (.iconst 0, 1) := by decide +kernel
theorem dX11_draw_84 : decode cX11_draw 84 = .ok (.istore 7, 2) := by decide +kernel
theorem dX11_draw_86 : decode cX11_draw 86 = .ok (.iload 7, 2) := by decide +kernel
theorem dX11_draw_88 : decode cX11_draw 88 = .ok (.iload 5, 2) := by decide +kernel
theorem dX11_draw_90 : decode cX11_draw 90 = .ok (.if_icmp .ge 60, 3) := by decide +kernel
theorem dX11_draw_93 : decode cX11_draw 93 = .ok (.iconst 0, 1) := by decide +kernel
theorem dX11_draw_94 : decode cX11_draw 94 = .ok (.istore 8, 2) := by decide +kernel
theorem dX11_draw_96 : decode cX11_draw 96 = .ok (.iload 8, 2) := by decide +kernel
theorem dX11_draw_98 : decode cX11_draw 98 = .ok (.iload 4, 2) := by decide +kernel
theorem dX11_draw_100 : decode cX11_draw 100 = .ok (.if_icmp .ge 44, 3) := by decide +kernel
theorem dX11_draw_103 : decode cX11_draw 103 = .ok (.aload_n 0, 1) := by decide +kernel
theorem dX11_draw_104 : decode cX11_draw 104 = .ok (.bipush 6, 2) := by decide +kernel
theorem dX11_draw_106 : decode cX11_draw 106 = .ok (.invokevirtual 134, 3) := by decide +kernel
theorem dX11_draw_109 : decode cX11_draw 109 = .ok (.iconst 2, 1) := by decide +kernel
theorem dX11_draw_110 : decode cX11_draw 110 = .ok (.isub, 1) := by decide +kernel
theorem dX11_draw_111 : decode cX11_draw 111 = .ok (.istore 9, 2) := by decide +kernel
theorem dX11_draw_113 : decode cX11_draw 113 = .ok (.aload_n 0, 1) := by decide +kernel
theorem dX11_draw_114 : decode cX11_draw 114 = .ok (.getfield 7, 3) := by decide +kernel
theorem dX11_draw_117 : decode cX11_draw 117 = .ok (.iload 6, 2) := by decide +kernel
theorem dX11_draw_119 : decode cX11_draw 119 = .ok (.iload 8, 2) := by decide +kernel
theorem dX11_draw_121 : decode cX11_draw 121 = .ok (.iload 7, 2) := by decide +kernel
theorem dX11_draw_123 : decode cX11_draw 123 = .ok (.invokestatic 118, 3) := by decide +kernel
theorem dX11_draw_126 : decode cX11_draw 126 = .ok (.iload 9, 2) := by decide +kernel
theorem dX11_draw_128 : decode cX11_draw 128 = .ok (.ifCond .ge 7, 3) := by decide +kernel
theorem dX11_draw_131 : decode cX11_draw 131 = .ok (.iconst 0, 1) := by decide +kernel
theorem dX11_draw_132 : decode cX11_draw 132 = .ok (.goto 5, 3) := by decide +kernel
theorem dX11_draw_135 : decode cX11_draw 135 = .ok (.iload 9, 2) := by decide +kernel
theorem dX11_draw_137 : decode cX11_draw 137 = .ok (.iastore, 1) := by decide +kernel
theorem dX11_draw_138 : decode cX11_draw 138 = .ok (.iinc 8 1, 3) := by decide +kernel
theorem dX11_draw_141 : decode cX11_draw 141 = .ok (.goto (-45), 3) := by decide +kernel
theorem dX11_draw_144 : decode cX11_draw 144 = .ok (.iinc 7 1, 3) := by decide +kernel
theorem dX11_draw_147 : decode cX11_draw 147 = .ok (.goto (-61), 3) := by decide +kernel
theorem dX11_draw_150 : decode cX11_draw 150 = .ok (.iinc 3 1, 3) := by decide +kernel
theorem dX11_draw_153 : decode cX11_draw 153 = .ok (.goto (-109), 3) := by decide +kernel
theorem dX11_draw_156 : decode cX11_draw 156 = .ok (.aload_n 0, 1) := by decide +kernel
theorem dX11_draw_157 : decode cX11_draw 157 = .ok (.getfield 7, 3) := by decide +kernel
theorem dX11_draw_160 : decode cX11_draw 160 = .ok (.iconst 0, 1) := by decide +kernel
theorem dX11_draw_161 : decode cX11_draw 161 = .ok (.iaload, 1) := by decide +kernel
theorem dX11_draw_162 : decode cX11_draw 162 = .ok (.ireturn, 1) := by decide +kernel
theorem dX11_sprites_0 : decode cX11_sprites 0 = .ok (.aload_n 0, 1) := by decide +kernel
theorem dX11_sprites_1 : decode cX11_sprites 1 = .ok (.getfield 7, 3) := by decide +kernel
theorem dX11_sprites_4 : decode cX11_sprites 4 = .ok (.iconst 0, 1) := by decide +kernel
theorem dX11_sprites_5 : decode cX11_sprites 5 = .ok (.iaload, 1) := by decide +kernel
theorem dX11_sprites_6 : decode cX11_sprites 6 = .ok (.ireturn, 1) := by decide +kernel
theorem dX11_width_0 : decode cX11_width 0 = .ok (.aload_n 0, 1) := by decide +kernel
theorem dX11_width_1 : decode cX11_width 1 = .ok (.iload_n 1, 1) := by decide +kernel
theorem dX11_width_2 : decode cX11_width 2 = .ok (.invokevirtual 138, 3) := by decide +kernel
theorem dX11_width_5 : decode cX11_width 5 = .ok (.ifCond .eq 16, 3) := by decide +kernel
theorem dX11_width_8 : decode cX11_width 8 = .ok (.aload_n 0, 1) := by decide +kernel
theorem dX11_width_9 : decode cX11_width 9 = .ok (.getfield 7, 3) := by decide +kernel
theorem dX11_width_12 : decode cX11_width 12 = .ok (.iload_n 1, 1) := by decide +kernel
theorem dX11_width_13 : decode cX11_width 13 = .ok (.iconst 0, 1) := by decide +kernel
theorem dX11_width_14 : decode cX11_width 14 = .ok (.invokestatic 94, 3) := by decide +kernel
theorem dX11_width_17 : decode cX11_width 17 = .ok (.iaload, 1) := by decide +kernel
theorem dX11_width_18 : decode cX11_width 18 = .ok (.goto 4, 3) := by decide +kernel
theorem dX11_width_21 : decode cX11_width 21 = .ok (.iconst (-1), 1) := by decide +kernel
theorem dX11_width_22 : decode cX11_width 22 = .ok (.ireturn, 1) := by decide +kernel
theorem dX11_height_0 : decode cX11_height 0 = .ok (.aload_n 0, 1) := by decide +kernel
theorem dX11_height_1 : decode cX11_height 1 = .ok (.iload_n 1, 1) := by decide +kernel
theorem dX11_height_2 : decode cX11_height 2 = .ok (.invokevirtual 138, 3) := by decide +kernel
theorem dX11_height_5 : decode cX11_height 5 = .ok (.ifCond .eq 16, 3) := by decide +kernel
theorem dX11_height_8 : decode cX11_height 8 = .ok (.aload_n 0, 1) := by decide +kernel
theorem dX11_height_9 : decode cX11_height 9 = .ok (.getfield 7, 3) := by decide +kernel
theorem dX11_height_12 : decode cX11_height 12 = .ok (.iload_n 1, 1) := by decide +kernel
theorem dX11_height_13 : decode cX11_height 13 = .ok (.iconst 1, 1) := by decide +kernel
theorem dX11_height_14 : decode cX11_height 14 = .ok (.invokestatic 94, 3) := by decide +kernel
theorem dX11_height_17 : decode cX11_height 17 = .ok (.iaload, 1) := by decide +kernel
theorem dX11_height_18 : decode cX11_height 18 = .ok (.goto 4, 3) := by decide +kernel
theorem dX11_height_21 : decode cX11_height 21 = .ok (.iconst (-1), 1) := by decide +kernel
theorem dX11_height_22 : decode cX11_height 22 = .ok (.ireturn, 1) := by decide +kernel
theorem dX11_isPixel_0 : decode cX11_isPixel 0 = .ok (.aload_n 0, 1) := by decide +kernel
theorem dX11_isPixel_1 : decode cX11_isPixel 1 = .ok (.iload_n 1, 1) := by decide +kernel
theorem dX11_isPixel_2 : decode cX11_isPixel 2 = .ok (.invokevirtual 138, 3) := by decide +kernel
theorem dX11_isPixel_5 : decode cX11_isPixel 5 = .ok (.ifCond .eq 47, 3) := by decide +kernel
theorem dX11_isPixel_8 : decode cX11_isPixel 8 = .ok (.iload_n 2, 1) := by decide +kernel
theorem dX11_isPixel_9 : decode cX11_isPixel 9 = .ok (.iconst 0, 1) := by decide +kernel
theorem dX11_isPixel_10 : decode cX11_isPixel 10 = .ok (.aload_n 0, 1) := by decide +kernel
theorem dX11_isPixel_11 : decode cX11_isPixel 11 = .ok (.getfield 7, 3) := by decide +kernel
theorem dX11_isPixel_14 : decode cX11_isPixel 14 = .ok (.iload_n 1, 1) := by decide +kernel
theorem dX11_isPixel_15 : decode cX11_isPixel 15 = .ok (.iconst 0, 1) := by decide +kernel
theorem dX11_isPixel_16 : decode cX11_isPixel 16 = .ok (.invokestatic 94, 3) := by decide +kernel
theorem dX11_isPixel_19 : decode cX11_isPixel 19 = .ok (.iaload, 1) := by decide +kernel
theorem dX11_isPixel_20 : decode cX11_isPixel 20 = .ok (.iconst 1, 1) := by decide +kernel
theorem dX11_isPixel_21 : decode cX11_isPixel 21 = .ok (.isub, 1) := by decide +kernel
theorem dX11_isPixel_22 : decode cX11_isPixel 22 = .ok (.invokestatic 86, 3) := by decide +kernel
theorem dX11_isPixel_25 : decode cX11_isPixel 25 = .ok (.ifCond .eq 27, 3) := by decide +kernel
theorem dX11_isPixel_28 : decode cX11_isPixel 28 = .ok (.iload_n 3, 1) := by decide +kernel
theorem dX11_isPixel_29 : decode cX11_isPixel 29 = .ok (.iconst 0, 1) := by decide +kernel
theorem dX11_isPixel_30 : decode cX11_isPixel 30 = .ok (.aload_n 0, 1) := by decide +kernel
theorem dX11_isPixel_31 : decode cX11_isPixel 31 = .ok (.getfield 7, 3) := by decide +kernel
theorem dX11_isPixel_34 : decode cX11_isPixel 34 = .ok (.iload_n 1, 1) := by decide +kernel
theorem dX11_isPixel_35 : decode cX11_isPixel 35 = .ok (.iconst 1, 1) := by decide +kernel
theorem dX11_isPixel_36 : decode cX11_isPixel 36 = .ok (.invokestatic 94, 3) := by decide +kernel
theorem dX11_isPixel_39 : decode cX11_isPixel 39 = .ok (.iaload, 1) := by decide +kernel
theorem dX11_isPixel_40 : decode cX11_isPixel 40 = .ok (.iconst 1, 1) := by decide +kernel
theorem dX11_isPixel_41 : decode cX11_isPixel 41 = .ok (.isub, 1) := by decide +kernel
theorem dX11_isPixel_42 : decode cX11_isPixel 42 = .ok (.invokestatic 86, 3) := by decide +kernel
theorem dX11_isPixel_45 : decode cX11_isPixel 45 = .ok (.ifCond .eq 7, 3) := by decide +kernel
theorem dX11_isPixel_48 : decode cX11_isPixel 48 = .ok (.iconst 1, 1) := by decide +kernel
theorem dX11_isPixel_49 : decode cX11_isPixel 49 = .ok (.goto 4, 3) := by decide +kernel
theorem dX11_isPixel_52 : decode cX11_isPixel 52 = .ok (.iconst 0, 1) := by decide +kernel
theorem dX11_isPixel_53 : decode cX11_isPixel 53 = .ok (.ireturn, 1) := by decide +kernel
theorem dX11_color_0 : decode cX11_color 0 = .ok (.aload_n 0, 1) := by decide +kernel
theorem dX11_color_1 : decode cX11_color 1 = .ok (.iload_n 1, 1) := by decide +kernel
theorem dX11_color_2 : decode cX11_color 2 = .ok (.iload_n 2, 1) := by decide +kernel
theorem dX11_color_3 : decode cX11_color 3 = .ok (.iload_n 3, 1) := by decide +kernel
theorem dX11_color_4 : decode cX11_color 4 = .ok (.invokevirtual 142, 3) := by decide +kernel
theorem dX11_color_7 : decode cX11_color 7 = .ok (.ifCond .eq 17, 3) := by decide +kernel
theorem dX11_color_10 : decode cX11_color 10 = .ok (.aload_n 0, 1) := by decide +kernel
theorem dX11_color_11 : decode cX11_color 11 = .ok (.getfield 7, 3) := by decide +kernel
theorem dX11_color_14 : decode cX11_color 14 = .ok (.iload_n 1, 1) := by decide +kernel
theorem dX11_color_15 : decode cX11_color 15 = .ok (.iload_n 2, 1) := by decide +kernel
theorem dX11_color_16 : decode cX11_color 16 = .ok (.iload_n 3, 1) := by decide +kernel
theorem dX11_color_17 : decode cX11_color 17 = .ok (.invokestatic 118, 3) := by decide +kernel
theorem dX11_color_20 : decode cX11_color 20 = .ok (.iaload, 1) := by decide +kernel
theorem dX11_color_21 : decode cX11_color 21 = .ok (.goto 4, 3) := by decide +kernel
theorem dX11_color_24 : decode cX11_color 24 = .ok (.iconst (-1), 1) := by decide +kernel
theorem dX11_color_25 : decode cX11_color 25 = .ok (.ireturn, 1) := by decide +kernel
theorem dX11_setPixel_0 : decode cX11_setPixel 0 = .ok (.aload_n 0, 1) := by decide +kernel
theorem dX11_setPixel_1 : decode cX11_setPixel 1 = .ok (.iload_n 1, 1) := by decide +kernel
theorem dX11_setPixel_2 : decode cX11_setPixel 2 = .ok (.iload_n 2, 1) := by decide +kernel
theorem dX11_setPixel_3 : decode cX11_setPixel 3 = .ok (.iload_n 3, 1) := by decide +kernel
theorem dX11_setPixel_4 : decode cX11_setPixel 4 = .ok (.invokevirtual 142, 3) := by decide +kernel
theorem dX11_setPixel_7 : decode cX11_setPixel 7 = .ok (.ifCond .eq 29, 3) := by decide +kernel
theorem dX11_setPixel_10 : decode cX11_setPixel 10 = .ok (.iload 4, 2) := by decide +kernel
theorem dX11_setPixel_12 : decode cX11_setPixel 12 = .ok (.iconst 0, 1) := by decide +kernel
theorem dX11_setPixel_13 : decode cX11_setPixel 13 = .ok (.bipush 9, 2) := by decide +kernel
theorem dX11_setPixel_15 : decode cX11_setPixel 15 = .ok (.invokestatic 86, 3) := by decide +kernel
theorem dX11_setPixel_18 : decode cX11_setPixel 18 = .ok (.ifCond .eq 18, 3) := by decide +kernel
theorem dX11_setPixel_21 : decode cX11_setPixel 21 = .ok (.aload_n 0, 1) := by decide +kernel
theorem dX11_setPixel_22 : decode cX11_setPixel 22 = .ok (.iload_n 1, 1) := by decide +kernel
theorem dX11_setPixel_23 : decode cX11_setPixel 23 = .ok (.iload_n 2, 1) := by decide +kernel
theorem dX11_setPixel_24 : decode cX11_setPixel 24 = .ok (.iload_n 3, 1) := by decide +kernel
theorem dX11_setPixel_25 : decode cX11_setPixel 25 = .ok (.invokestatic 118, 3) := by decide +kernel
theorem dX11_setPixel_28 : decode cX11_setPixel 28 = .ok (.iload 4, 2) := by decide +kernel
theorem dX11_setPixel_30 : decode cX11_setPixel 30 = .ok (.invokevirtual 145, 3) := by decide +kernel
theorem dX11_setPixel_33 : decode cX11_setPixel 33 = .ok (.goto 4, 3) := by decide +kernel
theorem dX11_setPixel_36 : decode cX11_setPixel 36 = .ok (.iconst (-1), 1) := by decide +kernel
theorem dX11_setPixel_37 : decode cX11_setPixel 37 = .ok (.ireturn, 1) := by decide +kernel
theorem dX11_drop_0 : decode cX11_drop 0 = .ok (.aload_n 0, 1) := by decide +kernel
theorem dX11_drop_1 : decode cX11_drop 1 = .ok (.iload_n 1, 1) := by decide +kernel
theorem dX11_drop_2 : decode cX11_drop 2 = .ok (.invokevirtual 138, 3) := by decide +kernel
theorem dX11_drop_5 : decode cX11_drop 5 = .ok (.ifCond .ne 5, 3) := by decide +kernel
theorem dX11_drop_8 : decode cX11_drop 8 = .ok (.iconst (-1), 1) := by decide +kernel
theorem dX11_drop_9 : decode cX11_drop 9 = .ok (.ireturn, 1) := by decide +kernel
theorem dX11_drop_10 : decode cX11_drop 10 = .ok (.aload_n 0, 1) := by decide +kernel
theorem dX11_drop_11 : decode cX11_drop 11 = .ok (.invokevirtual 98, 3) := by decide +kernel
theorem dX11_drop_14 : decode cX11_drop 14 = .ok (.aload_n 0, 1) := by decide +kernel
theorem dX11_drop_15 : decode cX11_drop 15 = .ok (.getfield 7, 3) := by decide +kernel
theorem dX11_drop_18 : decode cX11_drop 18 = .ok (.iconst 0, 1) := by decide +kernel
theorem dX11_drop_19 : decode cX11_drop 19 = .ok (.dup2, 1) := by decide +kernel
theorem dX11_drop_20 : decode cX11_drop 20 = .ok (.iaload, 1) := by decide +kernel
theorem dX11_drop_21 : decode cX11_drop 21 = .ok (.iconst 1, 1) := by decide +kernel
theorem dX11_drop_22 : decode cX11_drop 22 = .ok (.isub, 1) := by decide +kernel
theorem dX11_drop_23 : decode cX11_drop 23 = .ok (.iastore, 1) := by decide +kernel
theorem dX11_drop_24 : decode cX11_drop 24 = .ok (.iload_n 1, 1) := by decide +kernel
theorem dX11_drop_25 : decode cX11_drop 25 = .ok (.iconst 0, 1) := by decide +kernel
theorem dX11_drop_26 : decode cX11_drop 26 = .ok (.invokestatic 94, 3) := by decide +kernel
theorem dX11_drop_29 : decode cX11_drop 29 = .ok (.istore_n 2, 1) := by decide +kernel
theorem dX11_drop_30 : decode cX11_drop 30 = .ok (.iload_n 2, 1) := by decide +kernel
theorem dX11_drop_31 : decode cX11_drop 31 = .ok (.aload_n 0, 1) := by decide +kernel
theorem dX11_drop_32 : decode cX11_drop 32 = .ok (.getfield 7, 3) := by decide +kernel
theorem dX11_drop_35 : decode cX11_drop 35 = .ok (.iconst 0, 1) := by decide +kernel
theorem dX11_drop_36 : decode cX11_drop 36 = .ok (.iaload, 1) := by decide +kernel
theorem dX11_drop_37 : decode cX11_drop 37 = .ok (.iconst 0, 1) := by decide +kernel
theorem dX11_drop_38 : decode cX11_drop 38 = .ok (.invokestatic 94, 3) := by decide +kernel
theorem dX11_drop_41 : decode cX11_drop 41 = .ok (.if_icmp .ge 24, 3) := by decide +kernel
theorem dX11_drop_44 : decode cX11_drop 44 = .ok (.aload_n 0, 1) := by decide +kernel
theorem dX11_drop_45 : decode cX11_drop 45 = .ok (.getfield 7, 3) := by decide +kernel
theorem dX11_drop_48 : decode cX11_drop 48 = .ok (.iload_n 2, 1) := by decide +kernel
theorem dX11_drop_49 : decode cX11_drop 49 = .ok (.aload_n 0, 1) := by decide +kernel
theorem dX11_drop_50 : decode cX11_drop 50 = .ok (.getfield 7, 3) := by decide +kernel
theorem dX11_drop_53 : decode cX11_drop 53 = .ok (.iload_n 2, 1) := by decide +kernel
theorem dX11_drop_54 : decode cX11_drop 54 = .ok (.bipush 72, 2) := by decide +kernel
theorem dX11_drop_56 : decode cX11_drop 56 = .ok (.iadd, 1) := by decide +kernel
theorem dX11_drop_57 : decode cX11_drop 57 = .ok (.iaload, 1) := by decide +kernel
theorem dX11_drop_58 : decode cX11_drop 58 = .ok (.iastore, 1) := by decide +kernel
theorem dX11_drop_59 : decode cX11_drop 59 = .ok (.iinc 2 1, 3) := by decide +kernel
theorem dX11_drop_62 : decode cX11_drop 62 = .ok (.goto (-32), 3) := by decide +kernel
theorem dX11_drop_65 : decode cX11_drop 65 = .ok (.aload_n 0, 1) := by decide +kernel
theorem dX11_drop_66 : decode cX11_drop 66 = .ok (.invokevirtual 101, 3) := by decide +kernel
theorem dX11_drop_69 : decode cX11_drop 69 = .ok (.aload_n 0, 1) := by decide +kernel
theorem dX11_drop_70 : decode cX11_drop 70 = .ok (.getfield 7, 3) := by decide +kernel
theorem dX11_drop_73 : decode cX11_drop 73 = .ok (.iconst 0, 1) := by decide +kernel
theorem dX11_drop_74 : decode cX11_drop 74 = .ok (.iaload, 1) := by decide +kernel
theorem dX11_drop_75 : decode cX11_drop 75 = .ok (.ireturn, 1) := by decide +kernel
theorem dX11_setGroup_0 : decode cX11_setGroup 0 = .ok (.aload_n 0, 1) := by decide +kernel
theorem dX11_setGroup_1 : decode cX11_setGroup 1 = .ok (.iload_n 1, 1) := by decide +kernel
theorem dX11_setGroup_2 : decode cX11_setGroup 2 = .ok (.invokevirtual 138, 3) := by decide +kernel
theorem dX11_setGroup_5 : decode cX11_setGroup 5 = .ok (.ifCond .eq 12, 3) := by decide +kernel
theorem dX11_setGroup_8 : decode cX11_setGroup 8 = .ok (.iload_n 2, 1) := by decide +kernel
theorem dX11_setGroup_9 : decode cX11_setGroup 9 = .ok (.iconst 0, 1) := by decide +kernel
theorem dX11_setGroup_10 : decode cX11_setGroup 10 = .ok (.iconst 3, 1) := by decide +kernel
theorem dX11_setGroup_11 : decode cX11_setGroup 11 = .ok (.invokestatic 86, 3) := by decide +kernel
theorem dX11_setGroup_14 : decode cX11_setGroup 14 = .ok (.ifCond .ne 5, 3) := by decide +kernel
theorem dX11_setGroup_17 : decode cX11_setGroup 17 = .ok (.iconst (-1), 1) := by decide +kernel
theorem dX11_setGroup_18 : decode cX11_setGroup 18 = .ok (.ireturn, 1) := by decide +kernel
theorem dX11_setGroup_19 : decode cX11_setGroup 19 = .ok (.aload_n 0, 1) := by decide +kernel
theorem dX11_setGroup_20 : decode cX11_setGroup 20 = .ok (.invokevirtual 98, 3) := by decide +kernel
theorem dX11_setGroup_23 : decode cX11_setGroup 23 = .ok (.aload_n 0, 1) := by decide +kernel
theorem dX11_setGroup_24 : decode cX11_setGroup 24 = .ok (.getfield 7, 3) := by decide +kernel
theorem dX11_setGroup_27 : decode cX11_setGroup 27 = .ok (.iload_n 1, 1) := by decide +kernel
theorem dX11_setGroup_28 : decode cX11_setGroup 28 = .ok (.iconst 2, 1) := by decide +kernel
theorem dX11_setGroup_29 : decode cX11_setGroup 29 = .ok (.invokestatic 94, 3) := by decide +kernel
theorem dX11_setGroup_32 : decode cX11_setGroup 32 = .ok (.iaload, 1) := by decide +kernel
theorem dX11_setGroup_33 : decode cX11_setGroup 33 = .ok (.istore_n 3, 1) := by decide +kernel
theorem dX11_setGroup_34 : decode cX11_setGroup 34 = .ok (.aload_n 0, 1) := by decide +kernel
theorem dX11_setGroup_35 : decode cX11_setGroup 35 = .ok (.getfield 7, 3) := by decide +kernel
theorem dX11_setGroup_38 : decode cX11_setGroup 38 = .ok (.iload_n 1, 1) := by decide +kernel
theorem dX11_setGroup_39 : decode cX11_setGroup 39 = .ok (.iconst 2, 1) := by decide +kernel
theorem dX11_setGroup_40 : decode cX11_setGroup 40 = .ok (.invokestatic 94, 3) := by decide +kernel
theorem dX11_setGroup_43 : decode cX11_setGroup 43 = .ok (.iload_n 2, 1) := by decide +kernel
theorem dX11_setGroup_44 : decode cX11_setGroup 44 = .ok (.iastore, 1) := by decide +kernel
theorem dX11_setGroup_45 : decode cX11_setGroup 45 = .ok (.iload_n 3, 1) := by decide +kernel
theorem dX11_setGroup_46 : decode cX11_setGroup 46 = .ok (.ireturn, 1) := by decide +kernel
theorem dX11_groupOf_0 : decode cX11_groupOf 0 = .ok (.aload_n 0, 1) := by decide +kernel
theorem dX11_groupOf_1 : decode cX11_groupOf 1 = .ok (.iload_n 1, 1) := by decide +kernel
theorem dX11_groupOf_2 : decode cX11_groupOf 2 = .ok (.invokevirtual 138, 3) := by decide +kernel
theorem dX11_groupOf_5 : decode cX11_groupOf 5 = .ok (.ifCond .eq 16, 3) := by decide +kernel
theorem dX11_groupOf_8 : decode cX11_groupOf 8 = .ok (.aload_n 0, 1) := by decide +kernel
theorem dX11_groupOf_9 : decode cX11_groupOf 9 = .ok (.getfield 7, 3) := by decide +kernel
theorem dX11_groupOf_12 : decode cX11_groupOf 12 = .ok (.iload_n 1, 1) := by decide +kernel
theorem dX11_groupOf_13 : decode cX11_groupOf 13 = .ok (.iconst 2, 1) := by decide +kernel
theorem dX11_groupOf_14 : decode cX11_groupOf 14 = .ok (.invokestatic 94, 3) := by decide +kernel
theorem dX11_groupOf_17 : decode cX11_groupOf 17 = .ok (.iaload, 1) := by decide +kernel
theorem dX11_groupOf_18 : decode cX11_groupOf 18 = .ok (.goto 4, 3) := by decide +kernel
theorem dX11_groupOf_21 : decode cX11_groupOf 21 = .ok (.iconst (-1), 1) := by decide +kernel
theorem dX11_groupOf_22 : decode cX11_groupOf 22 = .ok (.ireturn, 1) := by decide +kernel
theorem dX11_trims_0 : decode cX11_trims 0 = .ok (.aload_n 0, 1) := by decide +kernel
theorem dX11_trims_1 : decode cX11_trims 1 = .ok (.getfield 7, 3) := by decide +kernel
theorem dX11_trims_4 : decode cX11_trims 4 = .ok (.iload_n 1, 1) := by decide +kernel
theorem dX11_trims_5 : decode cX11_trims 5 = .ok (.iconst 0, 1) := by decide +kernel
theorem dX11_trims_6 : decode cX11_trims 6 = .ok (.invokestatic 94, 3) := by decide +kernel
theorem dX11_trims_9 : decode cX11_trims 9 = .ok (.iaload, 1) := by decide +kernel
theorem dX11_trims_10 : decode cX11_trims 10 = .ok (.istore_n 2, 1) := by decide +kernel
theorem dX11_trims_11 : decode cX11_trims 11 = .ok (.aload_n 0, 1) := by decide +kernel
theorem dX11_trims_12 : decode cX11_trims 12 = .ok (.getfield 7, 3) := by decide +kernel
theorem dX11_trims_15 : decode cX11_trims 15 = .ok (.iload_n 1, 1) := by decide +kernel
theorem dX11_trims_16 : decode cX11_trims 16 = .ok (.iconst 1, 1) := by decide +kernel
theorem dX11_trims_17 : decode cX11_trims 17 = .ok (.invokestatic 94, 3) := by decide +kernel
theorem dX11_trims_20 : decode cX11_trims 20 = .ok (.iaload, 1) := by decide +kernel
theorem dX11_trims_21 : decode cX11_trims 21 = .ok (.istore_n 3, 1) := by decide +kernel
theorem dX11_trims_22 : decode cX11_trims 22 = .ok (.iload_n 2, 1) := by decide +kernel
theorem dX11_trims_23 : decode cX11_trims 23 = .ok (.istore 4, 2) := by decide +kernel
theorem dX11_trims_25 : decode cX11_trims 25 = .ok (.iload_n 3, 1) := by decide +kernel
theorem dX11_trims_26 : decode cX11_trims 26 = .ok (.istore 5, 2) := by decide +kernel
theorem dX11_trims_28 : decode cX11_trims 28 = .ok (.iconst (-1), 1) := by decide +kernel
theorem dX11_trims_29 : decode cX11_trims 29 = .ok (.istore 6, 2) := by decide +kernel
theorem dX11_trims_31 : decode cX11_trims 31 = .ok (.iconst (-1), 1) := by decide +kernel
theorem dX11_trims_32 : decode cX11_trims 32 = .ok (.istore 7, 2) := by decide +kernel
theorem dX11_trims_34 : decode cX11_trims 34 = .ok (.iconst 0, 1) := by decide +kernel
theorem dX11_trims_35 : decode cX11_trims 35 = .ok (.istore 8, 2) := by decide +kernel
theorem dX11_trims_37 : decode cX11_trims 37 = .ok (.iload 8, 2) := by decide +kernel
theorem dX11_trims_39 : decode cX11_trims 39 = .ok (.iload_n 3, 1) := by decide +kernel
theorem dX11_trims_40 : decode cX11_trims 40 = .ok (.if_icmp .ge 114, 3) := by decide +kernel
theorem dX11_trims_43 : decode cX11_trims 43 = .ok (.iconst 0, 1) := by decide +kernel
theorem dX11_trims_44 : decode cX11_trims 44 = .ok (.istore 9, 2) := by decide +kernel
theorem dX11_trims_46 : decode cX11_trims 46 = .ok (.iload 9, 2) := by decide +kernel
theorem dX11_trims_48 : decode cX11_trims 48 = .ok (.iload_n 2, 1) := by decide +kernel
theorem dX11_trims_49 : decode cX11_trims 49 = .ok (.if_icmp .ge 99, 3) := by decide +kernel
theorem dX11_trims_52 : decode cX11_trims 52 = .ok (.aload_n 0, 1) := by decide +kernel
theorem dX11_trims_53 : decode cX11_trims 53 = .ok (.getfield 7, 3) := by decide +kernel
theorem dX11_trims_56 : decode cX11_trims 56 = .ok (.iload_n 1, 1) := by decide +kernel
theorem dX11_trims_57 : decode cX11_trims 57 = .ok (.iload 9, 2) := by decide +kernel
theorem dX11_trims_59 : decode cX11_trims 59 = .ok (.iload 8, 2) := by decide +kernel
theorem dX11_trims_61 : decode cX11_trims 61 = .ok (.invokestatic 118, 3) := by decide +kernel
theorem dX11_trims_64 : decode cX11_trims 64 = .ok (.iaload, 1) := by decide +kernel
theorem dX11_trims_65 : decode cX11_trims 65 = .ok (.ifCond .ne 13, 3) := by decide +kernel
theorem dX11_trims_68 : decode cX11_trims 68 = .ok (.aload_n 0, 1) := by decide +kernel
theorem dX11_trims_69 : decode cX11_trims 69 = .ok (.getfield 7, 3) := by decide +kernel
theorem dX11_trims_72 : decode cX11_trims 72 = .ok (.bipush 7, 2) := by decide +kernel
theorem dX11_trims_74 : decode cX11_trims 74 = .ok (.iaload, 1) := by decide +kernel
theorem dX11_trims_75 : decode cX11_trims 75 = .ok (.ifCond .ne 67, 3) := by decide +kernel
theorem dX11_trims_78 : decode cX11_trims 78 = .ok (.iload 9, 2) := by decide +kernel
theorem dX11_trims_80 : decode cX11_trims 80 = .ok (.iload 4, 2) := by decide +kernel
theorem dX11_trims_82 : decode cX11_trims 82 = .ok (.if_icmp .ge 8, 3) := by decide +kernel
theorem dX11_trims_85 : decode cX11_trims 85 = .ok (.iload 9, 2) := by decide +kernel
theorem dX11_trims_87 : decode cX11_trims 87 = .ok (.goto 5, 3) := by decide +kernel
theorem dX11_trims_90 : decode cX11_trims 90 = .ok (.iload 4, 2) := by decide +kernel
theorem dX11_trims_92 : decode cX11_trims 92 = .ok (.istore 4, 2) := by decide +kernel
theorem dX11_trims_94 : decode cX11_trims 94 = .ok (.iload 8, 2) := by decide +kernel
theorem dX11_trims_96 : decode cX11_trims 96 = .ok (.iload 5, 2) := by decide +kernel
theorem dX11_trims_98 : decode cX11_trims 98 = .ok (.if_icmp .ge 8, 3) := by decide +kernel
theorem dX11_trims_101 : decode cX11_trims 101 = .ok (.iload 8, 2) := by decide +kernel
theorem dX11_trims_103 : decode cX11_trims 103 = .ok (.goto 5, 3) := by decide +kernel
theorem dX11_trims_106 : decode cX11_trims 106 = .ok (.iload 5, 2) := by decide +kernel
theorem dX11_trims_108 : decode cX11_trims 108 = .ok (.istore 5, 2) := by decide +kernel
theorem dX11_trims_110 : decode cX11_trims 110 = .ok (.iload 9, 2) := by decide +kernel
theorem dX11_trims_112 : decode cX11_trims 112 = .ok (.iload 6, 2) := by decide +kernel
theorem dX11_trims_114 : decode cX11_trims 114 = .ok (.if_icmp .le 8, 3) := by decide +kernel
theorem dX11_trims_117 : decode cX11_trims 117 = .ok (.iload 9, 2) := by decide +kernel
theorem dX11_trims_119 : decode cX11_trims 119 = .ok (.goto 5, 3) := by decide +kernel
theorem dX11_trims_122 : decode cX11_trims 122 = .ok (.iload 6, 2) := by decide +kernel
theorem dX11_trims_124 : decode cX11_trims 124 = .ok (.istore 6, 2) := by decide +kernel
theorem dX11_trims_126 : decode cX11_trims 126 = .ok (.iload 8, 2) := by decide +kernel
theorem dX11_trims_128 : decode cX11_trims 128 = .ok (.iload 7, 2) := by decide +kernel
theorem dX11_trims_130 : decode cX11_trims 130 = .ok (.if_icmp .le 8, 3) := by decide +kernel
theorem dX11_trims_133 : decode cX11_trims 133 = .ok (.iload 8, 2) := by decide +kernel
theorem dX11_trims_135 : decode cX11_trims 135 = .ok (.goto 5, 3) := by decide +kernel
theorem dX11_trims_138 : decode cX11_trims 138 = .ok (.iload 7, 2) := by decide +kernel
theorem dX11_trims_140 : decode cX11_trims 140 = .ok (.istore 7, 2) := by decide +kernel
theorem dX11_trims_142 : decode cX11_trims 142 = .ok (.iinc 9 1, 3) := by decide +kernel
theorem dX11_trims_145 : decode cX11_trims 145 = .ok (.goto (-99), 3) := by decide +kernel
theorem dX11_trims_148 : decode cX11_trims 148 = .ok (.iinc 8 1, 3) := by decide +kernel
theorem dX11_trims_151 : decode cX11_trims 151 = .ok (.goto (-114), 3) := by decide +kernel
theorem dX11_trims_154 : decode cX11_trims 154 = .ok (.aload_n 0, 1) := by decide +kernel
theorem dX11_trims_155 : decode cX11_trims 155 = .ok (.getfield 32, 3) := by decide +kernel
theorem dX11_trims_158 : decode cX11_trims 158 = .ok (.iload_n 1, 1) := by decide +kernel
theorem dX11_trims_159 : decode cX11_trims 159 = .ok (.iload 4, 2) := by decide +kernel
theorem dX11_trims_161 : decode cX11_trims 161 = .ok (.iastore, 1) := by decide +kernel
theorem dX11_trims_162 : decode cX11_trims 162 = .ok (.aload_n 0, 1) := by decide +kernel
theorem dX11_trims_163 : decode cX11_trims 163 = .ok (.getfield 35, 3) := by decide +kernel
theorem dX11_trims_166 : decode cX11_trims 166 = .ok (.iload_n 1, 1) := by decide +kernel
theorem dX11_trims_167 : decode cX11_trims 167 = .ok (.iload 5, 2) := by decide +kernel
theorem dX11_trims_169 : decode cX11_trims 169 = .ok (.iastore, 1) := by decide +kernel
theorem dX11_trims_170 : decode cX11_trims 170 = .ok (.aload_n 0, 1) := by decide +kernel
theorem dX11_trims_171 : decode cX11_trims 171 = .ok (.getfield 38, 3) := by decide +kernel
theorem dX11_trims_174 : decode cX11_trims 174 = .ok (.iload_n 1, 1) := by decide +kernel
theorem dX11_trims_175 : decode cX11_trims 175 = .ok (.iload 6, 2) := by decide +kernel
theorem dX11_trims_177 : decode cX11_trims 177 = .ok (.ifCond .ge 7, 3) := by decide +kernel
theorem dX11_trims_180 : decode cX11_trims 180 = .ok (.iconst 0, 1) := by decide +kernel
theorem dX11_trims_181 : decode cX11_trims 181 = .ok (.goto 10, 3) := by decide +kernel
theorem dX11_trims_184 : decode cX11_trims 184 = .ok (.iload 6, 2) := by decide +kernel
theorem dX11_trims_186 : decode cX11_trims 186 = .ok (.iload 4, 2) := by decide +kernel
theorem dX11_trims_188 : decode cX11_trims 188 = .ok (.isub, 1) := by decide +kernel
theorem dX11_trims_189 : decode cX11_trims 189 = .ok (.iconst 1, 1) := by decide +kernel
theorem dX11_trims_190 : decode cX11_trims 190 = .ok (.iadd, 1) := by decide +kernel
theorem dX11_trims_191 : decode cX11_trims 191 = .ok (.iastore, 1) := by decide +kernel
theorem dX11_trims_192 : decode cX11_trims 192 = .ok (.aload_n 0, 1) := by decide +kernel
theorem dX11_trims_193 : decode cX11_trims 193 = .ok (.getfield 41, 3) := by decide +kernel
theorem dX11_trims_196 : decode cX11_trims 196 = .ok (.iload_n 1, 1) := by decide +kernel
theorem dX11_trims_197 : decode cX11_trims 197 = .ok (.iload 6, 2) := by decide +kernel
theorem dX11_trims_199 : decode cX11_trims 199 = .ok (.ifCond .ge 7, 3) := by decide +kernel
theorem dX11_trims_202 : decode cX11_trims 202 = .ok (.iconst 0, 1) := by decide +kernel
theorem dX11_trims_203 : decode cX11_trims 203 = .ok (.goto 10, 3) := by decide +kernel
theorem dX11_trims_206 : decode cX11_trims 206 = .ok (.iload 7, 2) := by decide +kernel
theorem dX11_trims_208 : decode cX11_trims 208 = .ok (.iload 5, 2) := by decide +kernel
theorem dX11_trims_210 : decode cX11_trims 210 = .ok (.isub, 1) := by decide +kernel
theorem dX11_trims_211 : decode cX11_trims 211 = .ok (.iconst 1, 1) := by decide +kernel
theorem dX11_trims_212 : decode cX11_trims 212 = .ok (.iadd, 1) := by decide +kernel
theorem dX11_trims_213 : decode cX11_trims 213 = .ok (.iastore, 1) := by decide +kernel
theorem dX11_trims_214 : decode cX11_trims 214 = .ok (.return_, 1) := by decide +kernel
theorem dX11_turnsBack_0 : decode cX11_turnsBack 0 = .ok (.aload_n 0, 1) := by decide +kernel
theorem dX11_turnsBack_1 : decode cX11_turnsBack 1 = .ok (.iload 4, 2) := by decide +kernel
theorem dX11_turnsBack_3 : decode cX11_turnsBack 3 = .ok (.putfield 148, 3) := by decide +kernel
theorem dX11_turnsBack_6 : decode cX11_turnsBack 6 = .ok (.aload_n 0, 1) := by decide +kernel
theorem dX11_turnsBack_7 : decode cX11_turnsBack 7 = .ok (.iload 5, 2) := by decide +kernel
theorem dX11_turnsBack_9 : decode cX11_turnsBack 9 = .ok (.putfield 151, 3) := by decide +kernel
theorem dX11_turnsBack_12 : decode cX11_turnsBack 12 = .ok (.iload_n 1, 1) := by decide +kernel
theorem dX11_turnsBack_13 : decode cX11_turnsBack 13 = .ok (.iconst 4, 1) := by decide +kernel
theorem dX11_turnsBack_14 : decode cX11_turnsBack 14 = .ok (.irem, 1) := by decide +kernel
theorem dX11_turnsBack_15 : decode cX11_turnsBack 15 = .ok (.istore 6, 2) := by decide +kernel
theorem dX11_turnsBack_17 : decode cX11_turnsBack 17 = .ok (.iload 6, 2) := by decide +kernel
theorem dX11_turnsBack_19 : decode cX11_turnsBack 19 = .ok (.ifCond .le 49, 3) := by decide +kernel
theorem dX11_turnsBack_22 : decode cX11_turnsBack 22 = .ok (.iload 6, 2) := by decide +kernel
theorem dX11_turnsBack_24 : decode cX11_turnsBack 24 = .ok (.iconst 2, 1) := by decide +kernel
theorem dX11_turnsBack_25 : decode cX11_turnsBack 25 = .ok (.irem, 1) := by decide +kernel
theorem dX11_turnsBack_26 : decode cX11_turnsBack 26 = .ok (.iconst 1, 1) := by decide +kernel
theorem dX11_turnsBack_27 : decode cX11_turnsBack 27 = .ok (.if_icmp .ne 7, 3) := by decide +kernel
theorem dX11_turnsBack_30 : decode cX11_turnsBack 30 = .ok (.iload_n 3, 1) := by decide +kernel
theorem dX11_turnsBack_31 : decode cX11_turnsBack 31 = .ok (.goto 4, 3) := by decide +kernel
theorem dX11_turnsBack_34 : decode cX11_turnsBack 34 = .ok (.iload_n 2, 1) := by decide +kernel
theorem dX11_turnsBack_35 : decode cX11_turnsBack 35 = .ok (.istore 7, 2) := by decide +kernel
theorem dX11_turnsBack_37 : decode cX11_turnsBack 37 = .ok (.aload_n 0, 1) := by decide +kernel
theorem dX11_turnsBack_38 : decode cX11_turnsBack 38 = .ok (.getfield 148, 3) := by decide +kernel
theorem dX11_turnsBack_41 : decode cX11_turnsBack 41 = .ok (.istore 8, 2) := by decide +kernel
theorem dX11_turnsBack_43 : decode cX11_turnsBack 43 = .ok (.aload_n 0, 1) := by decide +kernel
theorem dX11_turnsBack_44 : decode cX11_turnsBack 44 = .ok (.aload_n 0, 1) := by decide +kernel
theorem dX11_turnsBack_45 : decode cX11_turnsBack 45 = .ok (.getfield 151, 3) := by decide +kernel
theorem dX11_turnsBack_48 : decode cX11_turnsBack 48 = .ok (.putfield 148, 3) := by decide +kernel
theorem dX11_turnsBack_51 : decode cX11_turnsBack 51 = .ok (.aload_n 0, 1) := by decide +kernel
theorem dX11_turnsBack_52 : decode cX11_turnsBack 52 = .ok (.iload 7, 2) := by decide +kernel
theorem dX11_turnsBack_54 : decode cX11_turnsBack 54 = .ok (.iconst 1, 1) := by decide +kernel
theorem dX11_turnsBack_55 : decode cX11_turnsBack 55 = .ok (.isub, 1) := by decide +kernel
theorem dX11_turnsBack_56 : decode cX11_turnsBack 56 = .ok (.iload 8, 2) := by decide +kernel
theorem dX11_turnsBack_58 : decode cX11_turnsBack 58 = .ok (.isub, 1) := by decide +kernel
theorem dX11_turnsBack_59 : decode cX11_turnsBack 59 = .ok (.putfield 151, 3) := by decide +kernel
theorem dX11_turnsBack_62 : decode cX11_turnsBack 62 = .ok (.iinc 6 (-1), 3) := by decide +kernel
theorem dX11_turnsBack_65 : decode cX11_turnsBack 65 = .ok (.goto (-48), 3) := by decide +kernel
theorem dX11_turnsBack_68 : decode cX11_turnsBack 68 = .ok (.aload_n 0, 1) := by decide +kernel
theorem dX11_turnsBack_69 : decode cX11_turnsBack 69 = .ok (.iload_n 1, 1) := by decide +kernel
theorem dX11_turnsBack_70 : decode cX11_turnsBack 70 = .ok (.iconst 4, 1) := by decide +kernel
theorem dX11_turnsBack_71 : decode cX11_turnsBack 71 = .ok (.if_icmp .lt 14, 3) := by decide +kernel
theorem dX11_turnsBack_74 : decode cX11_turnsBack 74 = .ok (.iload_n 2, 1) := by decide +kernel
theorem dX11_turnsBack_75 : decode cX11_turnsBack 75 = .ok (.iconst 1, 1) := by decide +kernel
theorem dX11_turnsBack_76 : decode cX11_turnsBack 76 = .ok (.isub, 1) := by decide +kernel
theorem dX11_turnsBack_77 : decode cX11_turnsBack 77 = .ok (.aload_n 0, 1) := by decide +kernel
theorem dX11_turnsBack_78 : decode cX11_turnsBack 78 = .ok (.getfield 148, 3) := by decide +kernel
theorem dX11_turnsBack_81 : decode cX11_turnsBack 81 = .ok (.isub, 1) := by decide +kernel
theorem dX11_turnsBack_82 : decode cX11_turnsBack 82 = .ok (.goto 7, 3) := by decide +kernel
theorem dX11_turnsBack_85 : decode cX11_turnsBack 85 = .ok (.aload_n 0, 1) := by decide +kernel
theorem dX11_turnsBack_86 : decode cX11_turnsBack 86 = .ok (.getfield 148, 3) := by decide +kernel
theorem dX11_turnsBack_89 : decode cX11_turnsBack 89 = .ok (.putfield 148, 3) := by decide +kernel
theorem dX11_turnsBack_92 : decode cX11_turnsBack 92 = .ok (.return_, 1) := by decide +kernel
theorem dX11_colorBy_0 : decode cX11_colorBy 0 = .ok (.aload_n 0, 1) := by decide +kernel
theorem dX11_colorBy_1 : decode cX11_colorBy 1 = .ok (.iload_n 3, 1) := by decide +kernel
theorem dX11_colorBy_2 : decode cX11_colorBy 2 = .ok (.iload_n 2, 1) := by decide +kernel
theorem dX11_colorBy_3 : decode cX11_colorBy 3 = .ok (.ifCond .ne 12, 3) := by decide +kernel
theorem dX11_colorBy_6 : decode cX11_colorBy 6 = .ok (.aload_n 0, 1) := by decide +kernel
theorem dX11_colorBy_7 : decode cX11_colorBy 7 = .ok (.getfield 38, 3) := by decide +kernel
theorem dX11_colorBy_10 : decode cX11_colorBy 10 = .ok (.iload_n 1, 1) := by decide +kernel
theorem dX11_colorBy_11 : decode cX11_colorBy 11 = .ok (.iaload, 1) := by decide +kernel
theorem dX11_colorBy_12 : decode cX11_colorBy 12 = .ok (.goto 9, 3) := by decide +kernel
theorem dX11_colorBy_15 : decode cX11_colorBy 15 = .ok (.aload_n 0, 1) := by decide +kernel
theorem dX11_colorBy_16 : decode cX11_colorBy 16 = .ok (.getfield 41, 3) := by decide +kernel
theorem dX11_colorBy_19 : decode cX11_colorBy 19 = .ok (.iload_n 1, 1) := by decide +kernel
theorem dX11_colorBy_20 : decode cX11_colorBy 20 = .ok (.iaload, 1) := by decide +kernel
theorem dX11_colorBy_21 : decode cX11_colorBy 21 = .ok (.iload_n 2, 1) := by decide +kernel
theorem dX11_colorBy_22 : decode cX11_colorBy 22 = .ok (.ifCond .ne 12, 3) := by decide +kernel
theorem dX11_colorBy_25 : decode cX11_colorBy 25 = .ok (.aload_n 0, 1) := by decide +kernel
theorem dX11_colorBy_26 : decode cX11_colorBy 26 = .ok (.getfield 41, 3) := by decide +kernel
theorem dX11_colorBy_29 : decode cX11_colorBy 29 = .ok (.iload_n 1, 1) := by decide +kernel
theorem dX11_colorBy_30 : decode cX11_colorBy 30 = .ok (.iaload, 1) := by decide +kernel
theorem dX11_colorBy_31 : decode cX11_colorBy 31 = .ok (.goto 9, 3) := by decide +kernel
theorem dX11_colorBy_34 : decode cX11_colorBy 34 = .ok (.aload_n 0, 1) := by decide +kernel
theorem dX11_colorBy_35 : decode cX11_colorBy 35 = .ok (.getfield 38, 3) := by decide +kernel
theorem dX11_colorBy_38 : decode cX11_colorBy 38 = .ok (.iload_n 1, 1) := by decide +kernel
theorem dX11_colorBy_39 : decode cX11_colorBy 39 = .ok (.iaload, 1) := by decide +kernel
theorem dX11_colorBy_40 : decode cX11_colorBy 40 = .ok (.iload 4, 2) := by decide +kernel
theorem dX11_colorBy_42 : decode cX11_colorBy 42 = .ok (.iload 5, 2) := by decide +kernel
theorem dX11_colorBy_44 : decode cX11_colorBy 44 = .ok (.invokevirtual 154, 3) := by decide +kernel
theorem dX11_colorBy_47 : decode cX11_colorBy 47 = .ok (.aload_n 0, 1) := by decide +kernel
theorem dX11_colorBy_48 : decode cX11_colorBy 48 = .ok (.iload_n 2, 1) := by decide +kernel
theorem dX11_colorBy_49 : decode cX11_colorBy 49 = .ok (.aload_n 0, 1) := by decide +kernel
theorem dX11_colorBy_50 : decode cX11_colorBy 50 = .ok (.getfield 38, 3) := by decide +kernel
theorem dX11_colorBy_53 : decode cX11_colorBy 53 = .ok (.iload_n 1, 1) := by decide +kernel
theorem dX11_colorBy_54 : decode cX11_colorBy 54 = .ok (.iaload, 1) := by decide +kernel
theorem dX11_colorBy_55 : decode cX11_colorBy 55 = .ok (.aload_n 0, 1) := by decide +kernel
theorem dX11_colorBy_56 : decode cX11_colorBy 56 = .ok (.getfield 41, 3) := by decide +kernel
theorem dX11_colorBy_59 : decode cX11_colorBy 59 = .ok (.iload_n 1, 1) := by decide +kernel
theorem dX11_colorBy_60 : decode cX11_colorBy 60 = .ok (.iaload, 1) := by decide +kernel
theorem dX11_colorBy_61 : decode cX11_colorBy 61 = .ok (.aload_n 0, 1) := by decide +kernel
theorem dX11_colorBy_62 : decode cX11_colorBy 62 = .ok (.getfield 148, 3) := by decide +kernel
theorem dX11_colorBy_65 : decode cX11_colorBy 65 = .ok (.aload_n 0, 1) := by decide +kernel
theorem dX11_colorBy_66 : decode cX11_colorBy 66 = .ok (.getfield 151, 3) := by decide +kernel
theorem dX11_colorBy_69 : decode cX11_colorBy 69 = .ok (.invokevirtual 154, 3) := by decide +kernel
theorem dX11_colorBy_72 : decode cX11_colorBy 72 = .ok (.aload_n 0, 1) := by decide +kernel
theorem dX11_colorBy_73 : decode cX11_colorBy 73 = .ok (.getfield 7, 3) := by decide +kernel
theorem dX11_colorBy_76 : decode cX11_colorBy 76 = .ok (.iload_n 1, 1) := by decide +kernel
theorem dX11_colorBy_77 : decode cX11_colorBy 77 = .ok (.aload_n 0, 1) := by decide +kernel
theorem dX11_colorBy_78 : decode cX11_colorBy 78 = .ok (.getfield 32, 3) := by decide +kernel
theorem dX11_colorBy_81 : decode cX11_colorBy 81 = .ok (.iload_n 1, 1) := by decide +kernel
theorem dX11_colorBy_82 : decode cX11_colorBy 82 = .ok (.iaload, 1) := by decide +kernel
theorem dX11_colorBy_83 : decode cX11_colorBy 83 = .ok (.aload_n 0, 1) := by decide +kernel
theorem dX11_colorBy_84 : decode cX11_colorBy 84 = .ok (.getfield 148, 3) := by decide +kernel
theorem dX11_colorBy_87 : decode cX11_colorBy 87 = .ok (.iadd, 1) := by decide +kernel
theorem dX11_colorBy_88 : decode cX11_colorBy 88 = .ok (.aload_n 0, 1) := by decide +kernel
theorem dX11_colorBy_89 : decode cX11_colorBy 89 = .ok (.getfield 35, 3) := by decide +kernel
theorem dX11_colorBy_92 : decode cX11_colorBy 92 = .ok (.iload_n 1, 1) := by decide +kernel
theorem dX11_colorBy_93 : decode cX11_colorBy 93 = .ok (.iaload, 1) := by decide +kernel
theorem dX11_colorBy_94 : decode cX11_colorBy 94 = .ok (.aload_n 0, 1) := by decide +kernel
theorem dX11_colorBy_95 : decode cX11_colorBy 95 = .ok (.getfield 151, 3) := by decide +kernel
theorem dX11_colorBy_98 : decode cX11_colorBy 98 = .ok (.iadd, 1) := by decide +kernel
theorem dX11_colorBy_99 : decode cX11_colorBy 99 = .ok (.invokestatic 118, 3) := by decide +kernel
theorem dX11_colorBy_102 : decode cX11_colorBy 102 = .ok (.iaload, 1) := by decide +kernel
theorem dX11_colorBy_103 : decode cX11_colorBy 103 = .ok (.ireturn, 1) := by decide +kernel
theorem dX11_isLike_0 : decode cX11_isLike 0 = .ok (.iload 4, 2) := by decide +kernel
theorem dX11_isLike_2 : decode cX11_isLike 2 = .ok (.iload_n 3, 1) := by decide +kernel
theorem dX11_isLike_3 : decode cX11_isLike 3 = .ok (.iadd, 1) := by decide +kernel
theorem dX11_isLike_4 : decode cX11_isLike 4 = .ok (.iconst 2, 1) := by decide +kernel
theorem dX11_isLike_5 : decode cX11_isLike 5 = .ok (.irem, 1) := by decide +kernel
theorem dX11_isLike_6 : decode cX11_isLike 6 = .ok (.iconst 1, 1) := by decide +kernel
theorem dX11_isLike_7 : decode cX11_isLike 7 = .ok (.if_icmp .ne 7, 3) := by decide +kernel
theorem dX11_isLike_10 : decode cX11_isLike 10 = .ok (.iconst 1, 1) := by decide +kernel
theorem dX11_isLike_11 : decode cX11_isLike 11 = .ok (.goto 4, 3) := by decide +kernel
theorem dX11_isLike_14 : decode cX11_isLike 14 = .ok (.iconst 0, 1) := by decide +kernel
theorem dX11_isLike_15 : decode cX11_isLike 15 = .ok (.istore 5, 2) := by decide +kernel
theorem dX11_isLike_17 : decode cX11_isLike 17 = .ok (.aload_n 0, 1) := by decide +kernel
theorem dX11_isLike_18 : decode cX11_isLike 18 = .ok (.getfield 38, 3) := by decide +kernel
theorem dX11_isLike_21 : decode cX11_isLike 21 = .ok (.iload_n 1, 1) := by decide +kernel
theorem dX11_isLike_22 : decode cX11_isLike 22 = .ok (.iaload, 1) := by decide +kernel
theorem dX11_isLike_23 : decode cX11_isLike 23 = .ok (.iload 5, 2) := by decide +kernel
theorem dX11_isLike_25 : decode cX11_isLike 25 = .ok (.ifCond .eq 12, 3) := by decide +kernel
theorem dX11_isLike_28 : decode cX11_isLike 28 = .ok (.aload_n 0, 1) := by decide +kernel
theorem dX11_isLike_29 : decode cX11_isLike 29 = .ok (.getfield 41, 3) := by decide +kernel
theorem dX11_isLike_32 : decode cX11_isLike 32 = .ok (.iload_n 2, 1) := by decide +kernel
theorem dX11_isLike_33 : decode cX11_isLike 33 = .ok (.iaload, 1) := by decide +kernel
theorem dX11_isLike_34 : decode cX11_isLike 34 = .ok (.goto 9, 3) := by decide +kernel
theorem dX11_isLike_37 : decode cX11_isLike 37 = .ok (.aload_n 0, 1) := by decide +kernel
theorem dX11_isLike_38 : decode cX11_isLike 38 = .ok (.getfield 38, 3) := by decide +kernel
theorem dX11_isLike_41 : decode cX11_isLike 41 = .ok (.iload_n 2, 1) := by decide +kernel
theorem dX11_isLike_42 : decode cX11_isLike 42 = .ok (.iaload, 1) := by decide +kernel
theorem dX11_isLike_43 : decode cX11_isLike 43 = .ok (.if_icmp .ne 32, 3) := by decide +kernel
theorem dX11_isLike_46 : decode cX11_isLike 46 = .ok (.aload_n 0, 1) := by decide +kernel
theorem dX11_isLike_47 : decode cX11_isLike 47 = .ok (.getfield 41, 3) := by decide +kernel
theorem dX11_isLike_50 : decode cX11_isLike 50 = .ok (.iload_n 1, 1) := by decide +kernel
theorem dX11_isLike_51 : decode cX11_isLike 51 = .ok (.iaload, 1) := by decide +kernel
theorem dX11_isLike_52 : decode cX11_isLike 52 = .ok (.iload 5, 2) := by decide +kernel
theorem dX11_isLike_54 : decode cX11_isLike 54 = .ok (.ifCond .eq 12, 3) := by decide +kernel
theorem dX11_isLike_57 : decode cX11_isLike 57 = .ok (.aload_n 0, 1) := by decide +kernel
theorem dX11_isLike_58 : decode cX11_isLike 58 = .ok (.getfield 38, 3) := by decide +kernel
theorem dX11_isLike_61 : decode cX11_isLike 61 = .ok (.iload_n 2, 1) := by decide +kernel
theorem dX11_isLike_62 : decode cX11_isLike 62 = .ok (.iaload, 1) := by decide +kernel
theorem dX11_isLike_63 : decode cX11_isLike 63 = .ok (.goto 9, 3) := by decide +kernel
theorem dX11_isLike_66 : decode cX11_isLike 66 = .ok (.aload_n 0, 1) := by decide +kernel
theorem dX11_isLike_67 : decode cX11_isLike 67 = .ok (.getfield 41, 3) := by decide +kernel
theorem dX11_isLike_70 : decode cX11_isLike 70 = .ok (.iload_n 2, 1) := by decide +kernel
theorem dX11_isLike_71 : decode cX11_isLike 71 = .ok (.iaload, 1) := by decide +kernel
theorem dX11_isLike_72 : decode cX11_isLike 72 = .ok (.if_icmp .eq 5, 3) := by decide +kernel
theorem dX11_isLike_75 : decode cX11_isLike 75 = .ok (.iconst 0, 1) := by decide +kernel
theorem dX11_isLike_76 : decode cX11_isLike 76 = .ok (.ireturn, 1) := by decide +kernel
theorem dX11_isLike_77 : decode cX11_isLike 77 = .ok (.iconst 1, 1) := by decide +kernel
theorem dX11_isLike_78 : decode cX11_isLike 78 = .ok (.istore 6, 2) := by decide +kernel
theorem dX11_isLike_80 : decode cX11_isLike 80 = .ok (.iconst 0, 1) := by decide +kernel
theorem dX11_isLike_81 : decode cX11_isLike 81 = .ok (.istore 7, 2) := by decide +kernel
theorem dX11_isLike_83 : decode cX11_isLike 83 = .ok (.iload 7, 2) := by decide +kernel
theorem dX11_isLike_85 : decode cX11_isLike 85 = .ok (.aload_n 0, 1) := by decide +kernel
theorem dX11_isLike_86 : decode cX11_isLike 86 = .ok (.getfield 41, 3) := by decide +kernel
theorem dX11_isLike_89 : decode cX11_isLike 89 = .ok (.iload_n 1, 1) := by decide +kernel
theorem dX11_isLike_90 : decode cX11_isLike 90 = .ok (.iaload, 1) := by decide +kernel
theorem dX11_isLike_91 : decode cX11_isLike 91 = .ok (.if_icmp .ge 88, 3) := by decide +kernel
theorem dX11_isLike_94 : decode cX11_isLike 94 = .ok (.iload 6, 2) := by decide +kernel
theorem dX11_isLike_96 : decode cX11_isLike 96 = .ok (.ifCond .eq 83, 3) := by decide +kernel
theorem dX11_isLike_99 : decode cX11_isLike 99 = .ok (.iconst 0, 1) := by decide +kernel
theorem dX11_isLike_100 : decode cX11_isLike 100 = .ok (.istore 8, 2) := by decide +kernel
theorem dX11_isLike_102 : decode cX11_isLike 102 = .ok (.iload 8, 2) := by decide +kernel
theorem dX11_isLike_104 : decode cX11_isLike 104 = .ok (.aload_n 0, 1) := by decide +kernel
theorem dX11_isLike_105 : decode cX11_isLike 105 = .ok (.getfield 38, 3) := by decide +kernel
theorem dX11_isLike_108 : decode cX11_isLike 108 = .ok (.iload_n 1, 1) := by decide +kernel
theorem dX11_isLike_109 : decode cX11_isLike 109 = .ok (.iaload, 1) := by decide +kernel
theorem dX11_isLike_110 : decode cX11_isLike 110 = .ok (.if_icmp .ge 63, 3) := by decide +kernel
theorem dX11_isLike_113 : decode cX11_isLike 113 = .ok (.iload 6, 2) := by decide +kernel
theorem dX11_isLike_115 : decode cX11_isLike 115 = .ok (.ifCond .eq 58, 3) := by decide +kernel
theorem dX11_isLike_118 : decode cX11_isLike 118 = .ok (.aload_n 0, 1) := by decide +kernel
theorem dX11_isLike_119 : decode cX11_isLike 119 = .ok (.getfield 7, 3) := by decide +kernel
theorem dX11_isLike_122 : decode cX11_isLike 122 = .ok (.iload_n 1, 1) := by decide +kernel
theorem dX11_isLike_123 : decode cX11_isLike 123 = .ok (.aload_n 0, 1) := by decide +kernel
theorem dX11_isLike_124 : decode cX11_isLike 124 = .ok (.getfield 32, 3) := by decide +kernel
theorem dX11_isLike_127 : decode cX11_isLike 127 = .ok (.iload_n 1, 1) := by decide +kernel
theorem dX11_isLike_128 : decode cX11_isLike 128 = .ok (.iaload, 1) := by decide +kernel
theorem dX11_isLike_129 : decode cX11_isLike 129 = .ok (.iload 8, 2) := by decide +kernel
theorem dX11_isLike_131 : decode cX11_isLike 131 = .ok (.iadd, 1) := by decide +kernel
theorem dX11_isLike_132 : decode cX11_isLike 132 = .ok (.aload_n 0, 1) := by decide +kernel
theorem dX11_isLike_133 : decode cX11_isLike 133 = .ok (.getfield 35, 3) := by decide +kernel
theorem dX11_isLike_136 : decode cX11_isLike 136 = .ok (.iload_n 1, 1) := by decide +kernel
theorem dX11_isLike_137 : decode cX11_isLike 137 = .ok (.iaload, 1) := by decide +kernel
theorem dX11_isLike_138 : decode cX11_isLike 138 = .ok (.iload 7, 2) := by decide +kernel
theorem dX11_isLike_140 : decode cX11_isLike 140 = .ok (.iadd, 1) := by decide +kernel
theorem dX11_isLike_141 : decode cX11_isLike 141 = .ok (.invokestatic 118, 3) := by decide +kernel
theorem dX11_isLike_144 : decode cX11_isLike 144 = .ok (.iaload, 1) := by decide +kernel
theorem dX11_isLike_145 : decode cX11_isLike 145 = .ok (.aload_n 0, 1) := by decide +kernel
theorem dX11_isLike_146 : decode cX11_isLike 146 = .ok (.iload_n 2, 1) := by decide +kernel
theorem dX11_isLike_147 : decode cX11_isLike 147 = .ok (.iload_n 3, 1) := by decide +kernel
theorem dX11_isLike_148 : decode cX11_isLike 148 = .ok (.iload 4, 2) := by decide +kernel
theorem dX11_isLike_150 : decode cX11_isLike 150 = .ok (.iload 8, 2) := by decide +kernel
theorem dX11_isLike_152 : decode cX11_isLike 152 = .ok (.iload 7, 2) := by decide +kernel
theorem dX11_isLike_154 : decode cX11_isLike 154 = .ok (.invokevirtual 158, 3) := by decide +kernel
theorem dX11_isLike_157 : decode cX11_isLike 157 = .ok (.if_icmp .ne 7, 3) := by decide +kernel
theorem dX11_isLike_160 : decode cX11_isLike 160 = .ok (.iconst 1, 1) := by decide +kernel
theorem dX11_isLike_161 : decode cX11_isLike 161 = .ok (.goto 4, 3) := by decide +kernel
theorem dX11_isLike_164 : decode cX11_isLike 164 = .ok (.iconst 0, 1) := by decide +kernel
theorem dX11_isLike_165 : decode cX11_isLike 165 = .ok (.istore 6, 2) := by decide +kernel
theorem dX11_isLike_167 : decode cX11_isLike 167 = .ok (.iinc 8 1, 3) := by decide +kernel
theorem dX11_isLike_170 : decode cX11_isLike 170 = .ok (.goto (-68), 3) := by decide +kernel
theorem dX11_isLike_173 : decode cX11_isLike 173 = .ok (.iinc 7 1, 3) := by decide +kernel
theorem dX11_isLike_176 : decode cX11_isLike 176 = .ok (.goto (-93), 3) := by decide +kernel
theorem dX11_isLike_179 : decode cX11_isLike 179 = .ok (.iload 6, 2) := by decide +kernel
theorem dX11_isLike_181 : decode cX11_isLike 181 = .ok (.ireturn, 1) := by decide +kernel
theorem dX11_orientations_0 : decode cX11_orientations 0 = .ok (.aload_n 0, 1) := by decide +kernel
theorem dX11_orientations_1 : decode cX11_orientations 1 = .ok (.getfield 7, 3) := by decide +kernel
theorem dX11_orientations_4 : decode cX11_orientations 4 = .ok (.bipush 8, 2) := by decide +kernel
theorem dX11_orientations_6 : decode cX11_orientations 6 = .ok (.iaload, 1) := by decide +kernel
theorem dX11_orientations_7 : decode cX11_orientations 7 = .ok (.iconst 3, 1) := by decide +kernel
theorem dX11_orientations_8 : decode cX11_orientations 8 = .ok (.if_icmp .ne 8, 3) := by decide +kernel
theorem dX11_orientations_11 : decode cX11_orientations 11 = .ok (.bipush 8, 2) := by decide +kernel
theorem dX11_orientations_13 : decode cX11_orientations 13 = .ok (.goto 25, 3) := by decide +kernel
theorem dX11_orientations_16 : decode cX11_orientations 16 = .ok (.aload_n 0, 1) := by decide +kernel
theorem dX11_orientations_17 : decode cX11_orientations 17 = .ok (.getfield 7, 3) := by decide +kernel
theorem dX11_orientations_20 : decode cX11_orientations 20 = .ok (.bipush 8, 2) := by decide +kernel
theorem dX11_orientations_22 : decode cX11_orientations 22 = .ok (.iaload, 1) := by decide +kernel
theorem dX11_orientations_23 : decode cX11_orientations 23 = .ok (.iconst 2, 1) := by decide +kernel
theorem dX11_orientations_24 : decode cX11_orientations 24 = .ok (.if_icmp .ne 7, 3) := by decide +kernel
theorem dX11_orientations_27 : decode cX11_orientations 27 = .ok (.iconst 4, 1) := by decide +kernel
theorem dX11_orientations_28 : decode cX11_orientations 28 = .ok (.goto 10, 3) := by decide +kernel
theorem dX11_orientations_31 : decode cX11_orientations 31 = .ok (.aload_n 0, 1) := by decide +kernel
theorem dX11_orientations_32 : decode cX11_orientations 32 = .ok (.getfield 7, 3) := by decide +kernel
theorem dX11_orientations_35 : decode cX11_orientations 35 = .ok (.bipush 8, 2) := by decide +kernel
theorem dX11_orientations_37 : decode cX11_orientations 37 = .ok (.iaload, 1) := by decide +kernel
theorem dX11_orientations_38 : decode cX11_orientations 38 = .ok (.ireturn, 1) := by decide +kernel
theorem dX11_seeks_0 : decode cX11_seeks 0 = .ok (.aload_n 0, 1) := by decide +kernel
theorem dX11_seeks_1 : decode cX11_seeks 1 = .ok (.getfield 44, 3) := by decide +kernel
theorem dX11_seeks_4 : decode cX11_seeks 4 = .ok (.iload_n 1, 1) := by decide +kernel
theorem dX11_seeks_5 : decode cX11_seeks 5 = .ok (.iconst (-1), 1) := by decide +kernel
theorem dX11_seeks_6 : decode cX11_seeks 6 = .ok (.iastore, 1) := by decide +kernel
theorem dX11_seeks_7 : decode cX11_seeks 7 = .ok (.aload_n 0, 1) := by decide +kernel
theorem dX11_seeks_8 : decode cX11_seeks 8 = .ok (.getfield 47, 3) := by decide +kernel
theorem dX11_seeks_11 : decode cX11_seeks 11 = .ok (.iload_n 1, 1) := by decide +kernel
theorem dX11_seeks_12 : decode cX11_seeks 12 = .ok (.iconst 0, 1) := by decide +kernel
theorem dX11_seeks_13 : decode cX11_seeks 13 = .ok (.iastore, 1) := by decide +kernel
theorem dX11_seeks_14 : decode cX11_seeks 14 = .ok (.iconst 0, 1) := by decide +kernel
theorem dX11_seeks_15 : decode cX11_seeks 15 = .ok (.istore_n 2, 1) := by decide +kernel
theorem dX11_seeks_16 : decode cX11_seeks 16 = .ok (.iload_n 2, 1) := by decide +kernel
theorem dX11_seeks_17 : decode cX11_seeks 17 = .ok (.iload_n 1, 1) := by decide +kernel
theorem dX11_seeks_18 : decode cX11_seeks 18 = .ok (.if_icmp .ge 95, 3) := by decide +kernel
theorem dX11_seeks_21 : decode cX11_seeks 21 = .ok (.aload_n 0, 1) := by decide +kernel
theorem dX11_seeks_22 : decode cX11_seeks 22 = .ok (.getfield 38, 3) := by decide +kernel
theorem dX11_seeks_25 : decode cX11_seeks 25 = .ok (.iload_n 1, 1) := by decide +kernel
theorem dX11_seeks_26 : decode cX11_seeks 26 = .ok (.iaload, 1) := by decide +kernel
theorem dX11_seeks_27 : decode cX11_seeks 27 = .ok (.ifCond .le 86, 3) := by decide +kernel
theorem dX11_seeks_30 : decode cX11_seeks 30 = .ok (.aload_n 0, 1) := by decide +kernel
theorem dX11_seeks_31 : decode cX11_seeks 31 = .ok (.getfield 44, 3) := by decide +kernel
theorem dX11_seeks_34 : decode cX11_seeks 34 = .ok (.iload_n 1, 1) := by decide +kernel
theorem dX11_seeks_35 : decode cX11_seeks 35 = .ok (.iaload, 1) := by decide +kernel
theorem dX11_seeks_36 : decode cX11_seeks 36 = .ok (.ifCond .ge 77, 3) := by decide +kernel
theorem dX11_seeks_39 : decode cX11_seeks 39 = .ok (.iconst 0, 1) := by decide +kernel
theorem dX11_seeks_40 : decode cX11_seeks 40 = .ok (.istore_n 3, 1) := by decide +kernel
theorem dX11_seeks_41 : decode cX11_seeks 41 = .ok (.iload_n 3, 1) := by decide +kernel
theorem dX11_seeks_42 : decode cX11_seeks 42 = .ok (.aload_n 0, 1) := by decide +kernel
theorem dX11_seeks_43 : decode cX11_seeks 43 = .ok (.invokevirtual 162, 3) := by decide +kernel
theorem dX11_seeks_46 : decode cX11_seeks 46 = .ok (.if_icmp .ge 61, 3) := by decide +kernel
theorem dX11_seeks_49 : decode cX11_seeks 49 = .ok (.aload_n 0, 1) := by decide +kernel
theorem dX11_seeks_50 : decode cX11_seeks 50 = .ok (.getfield 44, 3) := by decide +kernel
theorem dX11_seeks_53 : decode cX11_seeks 53 = .ok (.iload_n 1, 1) := by decide +kernel
theorem dX11_seeks_54 : decode cX11_seeks 54 = .ok (.iaload, 1) := by decide +kernel
theorem dX11_seeks_55 : decode cX11_seeks 55 = .ok (.ifCond .ge 52, 3) := by decide +kernel
theorem dX11_seeks_58 : decode cX11_seeks 58 = .ok (.aload_n 0, 1) := by decide +kernel
theorem dX11_seeks_59 : decode cX11_seeks 59 = .ok (.getfield 38, 3) := by decide +kernel
theorem dX11_seeks_62 : decode cX11_seeks 62 = .ok (.iload_n 2, 1) := by decide +kernel
theorem dX11_seeks_63 : decode cX11_seeks 63 = .ok (.iaload, 1) := by decide +kernel
theorem dX11_seeks_64 : decode cX11_seeks 64 = .ok (.ifCond .le 37, 3) := by decide +kernel
theorem dX11_seeks_67 : decode cX11_seeks 67 = .ok (.aload_n 0, 1) := by decide +kernel
theorem dX11_seeks_68 : decode cX11_seeks 68 = .ok (.getfield 44, 3) := by decide +kernel
theorem dX11_seeks_71 : decode cX11_seeks 71 = .ok (.iload_n 2, 1) := by decide +kernel
theorem dX11_seeks_72 : decode cX11_seeks 72 = .ok (.iaload, 1) := by decide +kernel
theorem dX11_seeks_73 : decode cX11_seeks 73 = .ok (.ifCond .ge 28, 3) := by decide +kernel
theorem dX11_seeks_76 : decode cX11_seeks 76 = .ok (.aload_n 0, 1) := by decide +kernel
theorem dX11_seeks_77 : decode cX11_seeks 77 = .ok (.iload_n 1, 1) := by decide +kernel
theorem dX11_seeks_78 : decode cX11_seeks 78 = .ok (.iload_n 2, 1) := by decide +kernel
theorem dX11_seeks_79 : decode cX11_seeks 79 = .ok (.iconst 0, 1) := by decide +kernel
theorem dX11_seeks_80 : decode cX11_seeks 80 = .ok (.iload_n 3, 1) := by decide +kernel
theorem dX11_seeks_81 : decode cX11_seeks 81 = .ok (.invokevirtual 165, 3) := by decide +kernel
theorem dX11_seeks_84 : decode cX11_seeks 84 = .ok (.ifCond .eq 17, 3) := by decide +kernel
theorem dX11_seeks_87 : decode cX11_seeks 87 = .ok (.aload_n 0, 1) := by decide +kernel
theorem dX11_seeks_88 : decode cX11_seeks 88 = .ok (.getfield 44, 3) := by decide +kernel
theorem dX11_seeks_91 : decode cX11_seeks 91 = .ok (.iload_n 1, 1) := by decide +kernel
theorem dX11_seeks_92 : decode cX11_seeks 92 = .ok (.iload_n 2, 1) := by decide +kernel
theorem dX11_seeks_93 : decode cX11_seeks 93 = .ok (.iastore, 1) := by decide +kernel
theorem dX11_seeks_94 : decode cX11_seeks 94 = .ok (.aload_n 0, 1) := by decide +kernel
theorem dX11_seeks_95 : decode cX11_seeks 95 = .ok (.getfield 47, 3) := by decide +kernel
theorem dX11_seeks_98 : decode cX11_seeks 98 = .ok (.iload_n 1, 1) := by decide +kernel
theorem dX11_seeks_99 : decode cX11_seeks 99 = .ok (.iload_n 3, 1) := by decide +kernel
theorem dX11_seeks_100 : decode cX11_seeks 100 = .ok (.iastore, 1) := by decide +kernel
theorem dX11_seeks_101 : decode cX11_seeks 101 = .ok (.iinc 3 1, 3) := by decide +kernel
theorem dX11_seeks_104 : decode cX11_seeks 104 = .ok (.goto (-63), 3) := by decide +kernel
theorem dX11_seeks_107 : decode cX11_seeks 107 = .ok (.iinc 2 1, 3) := by decide +kernel
theorem dX11_seeks_110 : decode cX11_seeks 110 = .ok (.goto (-94), 3) := by decide +kernel
theorem dX11_seeks_113 : decode cX11_seeks 113 = .ok (.return_, 1) := by decide +kernel
theorem dX11_knows_0 : decode cX11_knows 0 = .ok (.iconst 0, 1) := by decide +kernel
theorem dX11_knows_1 : decode cX11_knows 1 = .ok (.istore_n 1, 1) := by decide +kernel
theorem dX11_knows_2 : decode cX11_knows 2 = .ok (.iload_n 1, 1) := by decide +kernel
theorem dX11_knows_3 : decode cX11_knows 3 = .ok (.aload_n 0, 1) := by decide +kernel
theorem dX11_knows_4 : decode cX11_knows 4 = .ok (.getfield 7, 3) := by decide +kernel
theorem dX11_knows_7 : decode cX11_knows 7 = .ok (.iconst 0, 1) := by decide +kernel
theorem dX11_knows_8 : decode cX11_knows 8 = .ok (.iaload, 1) := by decide +kernel
theorem dX11_knows_9 : decode cX11_knows 9 = .ok (.if_icmp .ge 19, 3) := by decide +kernel
theorem dX11_knows_12 : decode cX11_knows 12 = .ok (.aload_n 0, 1) := by decide +kernel
theorem dX11_knows_13 : decode cX11_knows 13 = .ok (.iload_n 1, 1) := by decide +kernel
theorem dX11_knows_14 : decode cX11_knows 14 = .ok (.invokevirtual 169, 3) := by decide +kernel
theorem dX11_knows_17 : decode cX11_knows 17 = .ok (.aload_n 0, 1) := by decide +kernel
theorem dX11_knows_18 : decode cX11_knows 18 = .ok (.iload_n 1, 1) := by decide +kernel
theorem dX11_knows_19 : decode cX11_knows 19 = .ok (.invokevirtual 173, 3) := by decide +kernel
theorem dX11_knows_22 : decode cX11_knows 22 = .ok (.iinc 1 1, 3) := by decide +kernel
theorem dX11_knows_25 : decode cX11_knows 25 = .ok (.goto (-23), 3) := by decide +kernel
theorem dX11_knows_28 : decode cX11_knows 28 = .ok (.return_, 1) := by decide +kernel
theorem dX11_isOriginal_0 : decode cX11_isOriginal 0 = .ok (.aload_n 0, 1) := by decide +kernel
theorem dX11_isOriginal_1 : decode cX11_isOriginal 1 = .ok (.getfield 38, 3) := by decide +kernel
theorem dX11_isOriginal_4 : decode cX11_isOriginal 4 = .ok (.iload_n 1, 1) := by decide +kernel
theorem dX11_isOriginal_5 : decode cX11_isOriginal 5 = .ok (.iaload, 1) := by decide +kernel
theorem dX11_isOriginal_6 : decode cX11_isOriginal 6 = .ok (.ifCond .le 16, 3) := by decide +kernel
theorem dX11_isOriginal_9 : decode cX11_isOriginal 9 = .ok (.aload_n 0, 1) := by decide +kernel
theorem dX11_isOriginal_10 : decode cX11_isOriginal 10 = .ok (.getfield 44, 3) := by decide +kernel
theorem dX11_isOriginal_13 : decode cX11_isOriginal 13 = .ok (.iload_n 1, 1) := by decide +kernel
theorem dX11_isOriginal_14 : decode cX11_isOriginal 14 = .ok (.iaload, 1) := by decide +kernel
theorem dX11_isOriginal_15 : decode cX11_isOriginal 15 = .ok (.ifCond .ge 7, 3) := by decide +kernel
theorem dX11_isOriginal_18 : decode cX11_isOriginal 18 = .ok (.iconst 1, 1) := by decide +kernel
theorem dX11_isOriginal_19 : decode cX11_isOriginal 19 = .ok (.goto 4, 3) := by decide +kernel
theorem dX11_isOriginal_22 : decode cX11_isOriginal 22 = .ok (.iconst 0, 1) := by decide +kernel
theorem dX11_isOriginal_23 : decode cX11_isOriginal 23 = .ok (.ireturn, 1) := by decide +kernel
theorem dX11_trimLeft_0 : decode cX11_trimLeft 0 = .ok (.aload_n 0, 1) := by decide +kernel
theorem dX11_trimLeft_1 : decode cX11_trimLeft 1 = .ok (.iload_n 1, 1) := by decide +kernel
theorem dX11_trimLeft_2 : decode cX11_trimLeft 2 = .ok (.invokevirtual 138, 3) := by decide +kernel
theorem dX11_trimLeft_5 : decode cX11_trimLeft 5 = .ok (.ifCond .ne 5, 3) := by decide +kernel
theorem dX11_trimLeft_8 : decode cX11_trimLeft 8 = .ok (.iconst (-1), 1) := by decide +kernel
theorem dX11_trimLeft_9 : decode cX11_trimLeft 9 = .ok (.ireturn, 1) := by decide +kernel
theorem dX11_trimLeft_10 : decode cX11_trimLeft 10 = .ok (.aload_n 0, 1) := by decide +kernel
theorem dX11_trimLeft_11 : decode cX11_trimLeft 11 = .ok (.invokevirtual 176, 3) := by decide +kernel
theorem dX11_trimLeft_14 : decode cX11_trimLeft 14 = .ok (.aload_n 0, 1) := by decide +kernel
theorem dX11_trimLeft_15 : decode cX11_trimLeft 15 = .ok (.getfield 38, 3) := by decide +kernel
theorem dX11_trimLeft_18 : decode cX11_trimLeft 18 = .ok (.iload_n 1, 1) := by decide +kernel
theorem dX11_trimLeft_19 : decode cX11_trimLeft 19 = .ok (.iaload, 1) := by decide +kernel
theorem dX11_trimLeft_20 : decode cX11_trimLeft 20 = .ok (.ifCond .ne 8, 3) := by decide +kernel
theorem dX11_trimLeft_23 : decode cX11_trimLeft 23 = .ok (.bipush (-4), 2) := by decide +kernel
theorem dX11_trimLeft_25 : decode cX11_trimLeft 25 = .ok (.goto 9, 3) := by decide +kernel
theorem dX11_trimLeft_28 : decode cX11_trimLeft 28 = .ok (.aload_n 0, 1) := by decide +kernel
theorem dX11_trimLeft_29 : decode cX11_trimLeft 29 = .ok (.getfield 32, 3) := by decide +kernel
theorem dX11_trimLeft_32 : decode cX11_trimLeft 32 = .ok (.iload_n 1, 1) := by decide +kernel
theorem dX11_trimLeft_33 : decode cX11_trimLeft 33 = .ok (.iaload, 1) := by decide +kernel
theorem dX11_trimLeft_34 : decode cX11_trimLeft 34 = .ok (.ireturn, 1) := by decide +kernel
theorem dX11_trimTop_0 : decode cX11_trimTop 0 = .ok (.aload_n 0, 1) := by decide +kernel
theorem dX11_trimTop_1 : decode cX11_trimTop 1 = .ok (.iload_n 1, 1) := by decide +kernel
theorem dX11_trimTop_2 : decode cX11_trimTop 2 = .ok (.invokevirtual 138, 3) := by decide +kernel
theorem dX11_trimTop_5 : decode cX11_trimTop 5 = .ok (.ifCond .ne 5, 3) := by decide +kernel
theorem dX11_trimTop_8 : decode cX11_trimTop 8 = .ok (.iconst (-1), 1) := by decide +kernel
theorem dX11_trimTop_9 : decode cX11_trimTop 9 = .ok (.ireturn, 1) := by decide +kernel
theorem dX11_trimTop_10 : decode cX11_trimTop 10 = .ok (.aload_n 0, 1) := by decide +kernel
theorem dX11_trimTop_11 : decode cX11_trimTop 11 = .ok (.invokevirtual 176, 3) := by decide +kernel
theorem dX11_trimTop_14 : decode cX11_trimTop 14 = .ok (.aload_n 0, 1) := by decide +kernel
theorem dX11_trimTop_15 : decode cX11_trimTop 15 = .ok (.getfield 38, 3) := by decide +kernel
theorem dX11_trimTop_18 : decode cX11_trimTop 18 = .ok (.iload_n 1, 1) := by decide +kernel
theorem dX11_trimTop_19 : decode cX11_trimTop 19 = .ok (.iaload, 1) := by decide +kernel
theorem dX11_trimTop_20 : decode cX11_trimTop 20 = .ok (.ifCond .ne 8, 3) := by decide +kernel
theorem dX11_trimTop_23 : decode cX11_trimTop 23 = .ok (.bipush (-4), 2) := by decide +kernel
theorem dX11_trimTop_25 : decode cX11_trimTop 25 = .ok (.goto 9, 3) := by decide +kernel
theorem dX11_trimTop_28 : decode cX11_trimTop 28 = .ok (.aload_n 0, 1) := by decide +kernel
theorem dX11_trimTop_29 : decode cX11_trimTop 29 = .ok (.getfield 35, 3) := by decide +kernel
theorem dX11_trimTop_32 : decode cX11_trimTop 32 = .ok (.iload_n 1, 1) := by decide +kernel
theorem dX11_trimTop_33 : decode cX11_trimTop 33 = .ok (.iaload, 1) := by decide +kernel
theorem dX11_trimTop_34 : decode cX11_trimTop 34 = .ok (.ireturn, 1) := by decide +kernel
theorem dX11_trimWidth_0 : decode cX11_trimWidth 0 = .ok (.aload_n 0, 1) := by decide +kernel
theorem dX11_trimWidth_1 : decode cX11_trimWidth 1 = .ok (.iload_n 1, 1) := by decide +kernel
theorem dX11_trimWidth_2 : decode cX11_trimWidth 2 = .ok (.invokevirtual 138, 3) := by decide +kernel
theorem dX11_trimWidth_5 : decode cX11_trimWidth 5 = .ok (.ifCond .ne 5, 3) := by decide +kernel
theorem dX11_trimWidth_8 : decode cX11_trimWidth 8 = .ok (.iconst (-1), 1) := by decide +kernel
theorem dX11_trimWidth_9 : decode cX11_trimWidth 9 = .ok (.ireturn, 1) := by decide +kernel
theorem dX11_trimWidth_10 : decode cX11_trimWidth 10 = .ok (.aload_n 0, 1) := by decide +kernel
theorem dX11_trimWidth_11 : decode cX11_trimWidth 11 = .ok (.invokevirtual 176, 3) := by decide +kernel
theorem dX11_trimWidth_14 : decode cX11_trimWidth 14 = .ok (.aload_n 0, 1) := by decide +kernel
theorem dX11_trimWidth_15 : decode cX11_trimWidth 15 = .ok (.getfield 38, 3) := by decide +kernel
theorem dX11_trimWidth_18 : decode cX11_trimWidth 18 = .ok (.iload_n 1, 1) := by decide +kernel
theorem dX11_trimWidth_19 : decode cX11_trimWidth 19 = .ok (.iaload, 1) := by decide +kernel
theorem dX11_trimWidth_20 : decode cX11_trimWidth 20 = .ok (.ireturn, 1) := by decide +kernel
theorem dX11_trimHeight_0 : decode cX11_trimHeight 0 = .ok (.aload_n 0, 1) := by decide +kernel
theorem dX11_trimHeight_1 : decode cX11_trimHeight 1 = .ok (.iload_n 1, 1) := by decide +kernel
theorem dX11_trimHeight_2 : decode cX11_trimHeight 2 = .ok (.invokevirtual 138, 3) := by decide +kernel
theorem dX11_trimHeight_5 : decode cX11_trimHeight 5 = .ok (.ifCond .ne 5, 3) := by decide +kernel
theorem dX11_trimHeight_8 : decode cX11_trimHeight 8 = .ok (.iconst (-1), 1) := by decide +kernel
theorem dX11_trimHeight_9 : decode cX11_trimHeight 9 = .ok (.ireturn, 1) := by decide +kernel
theorem dX11_trimHeight_10 : decode cX11_trimHeight 10 = .ok (.aload_n 0, 1) := by decide +kernel
theorem dX11_trimHeight_11 : decode cX11_trimHeight 11 = .ok (.invokevirtual 176, 3) := by decide +kernel
theorem dX11_trimHeight_14 : decode cX11_trimHeight 14 = .ok (.aload_n 0, 1) := by decide +kernel
theorem dX11_trimHeight_15 : decode cX11_trimHeight 15 = .ok (.getfield 41, 3) := by decide +kernel
theorem dX11_trimHeight_18 : decode cX11_trimHeight 18 = .ok (.iload_n 1, 1) := by decide +kernel
theorem dX11_trimHeight_19 : decode cX11_trimHeight 19 = .ok (.iaload, 1) := by decide +kernel
theorem dX11_trimHeight_20 : decode cX11_trimHeight 20 = .ok (.ireturn, 1) := by decide +kernel
theorem dX11_originalOf_0 : decode cX11_originalOf 0 = .ok (.aload_n 0, 1) := by decide +kernel
theorem dX11_originalOf_1 : decode cX11_originalOf 1 = .ok (.iload_n 1, 1) := by decide +kernel
theorem dX11_originalOf_2 : decode cX11_originalOf 2 = .ok (.invokevirtual 138, 3) := by decide +kernel
theorem dX11_originalOf_5 : decode cX11_originalOf 5 = .ok (.ifCond .ne 5, 3) := by decide +kernel
theorem dX11_originalOf_8 : decode cX11_originalOf 8 = .ok (.iconst (-1), 1) := by decide +kernel
theorem dX11_originalOf_9 : decode cX11_originalOf 9 = .ok (.ireturn, 1) := by decide +kernel
theorem dX11_originalOf_10 : decode cX11_originalOf 10 = .ok (.aload_n 0, 1) := by decide +kernel
theorem dX11_originalOf_11 : decode cX11_originalOf 11 = .ok (.invokevirtual 176, 3) := by decide +kernel
theorem dX11_originalOf_14 : decode cX11_originalOf 14 = .ok (.aload_n 0, 1) := by decide +kernel
theorem dX11_originalOf_15 : decode cX11_originalOf 15 = .ok (.getfield 44, 3) := by decide +kernel
theorem dX11_originalOf_18 : decode cX11_originalOf 18 = .ok (.iload_n 1, 1) := by decide +kernel
theorem dX11_originalOf_19 : decode cX11_originalOf 19 = .ok (.iaload, 1) := by decide +kernel
theorem dX11_originalOf_20 : decode cX11_originalOf 20 = .ok (.ifCond .ge 8, 3) := by decide +kernel
theorem dX11_originalOf_23 : decode cX11_originalOf 23 = .ok (.bipush (-4), 2) := by decide +kernel
theorem dX11_originalOf_25 : decode cX11_originalOf 25 = .ok (.goto 9, 3) := by decide +kernel
theorem dX11_originalOf_28 : decode cX11_originalOf 28 = .ok (.aload_n 0, 1) := by decide +kernel
theorem dX11_originalOf_29 : decode cX11_originalOf 29 = .ok (.getfield 44, 3) := by decide +kernel
theorem dX11_originalOf_32 : decode cX11_originalOf 32 = .ok (.iload_n 1, 1) := by decide +kernel
theorem dX11_originalOf_33 : decode cX11_originalOf 33 = .ok (.iaload, 1) := by decide +kernel
theorem dX11_originalOf_34 : decode cX11_originalOf 34 = .ok (.ireturn, 1) := by decide +kernel
theorem dX11_orientationOf_0 : decode cX11_orientationOf 0 = .ok (.aload_n 0, 1) := by decide +kernel
theorem dX11_orientationOf_1 : decode cX11_orientationOf 1 = .ok (.iload_n 1, 1) := by decide +kernel
theorem dX11_orientationOf_2 : decode cX11_orientationOf 2 = .ok (.invokevirtual 138, 3) := by decide +kernel
theorem dX11_orientationOf_5 : decode cX11_orientationOf 5 = .ok (.ifCond .ne 5, 3) := by decide +kernel
theorem dX11_orientationOf_8 : decode cX11_orientationOf 8 = .ok (.iconst (-1), 1) := by decide +kernel
theorem dX11_orientationOf_9 : decode cX11_orientationOf 9 = .ok (.ireturn, 1) := by decide +kernel
theorem dX11_orientationOf_10 : decode cX11_orientationOf 10 = .ok (.aload_n 0, 1) := by decide +kernel
theorem dX11_orientationOf_11 : decode cX11_orientationOf 11 = .ok (.invokevirtual 176, 3) := by decide +kernel
theorem dX11_orientationOf_14 : decode cX11_orientationOf 14 = .ok (.aload_n 0, 1) := by decide +kernel
theorem dX11_orientationOf_15 : decode cX11_orientationOf 15 = .ok (.getfield 44, 3) := by decide +kernel
theorem dX11_orientationOf_18 : decode cX11_orientationOf 18 = .ok (.iload_n 1, 1) := by decide +kernel
theorem dX11_orientationOf_19 : decode cX11_orientationOf 19 = .ok (.iaload, 1) := by decide +kernel
theorem dX11_orientationOf_20 : decode cX11_orientationOf 20 = .ok (.ifCond .ge 8, 3) := by decide +kernel
theorem dX11_orientationOf_23 : decode cX11_orientationOf 23 = .ok (.bipush (-4), 2) := by decide +kernel
theorem dX11_orientationOf_25 : decode cX11_orientationOf 25 = .ok (.goto 9, 3) := by decide +kernel
theorem dX11_orientationOf_28 : decode cX11_orientationOf 28 = .ok (.aload_n 0, 1) := by decide +kernel
theorem dX11_orientationOf_29 : decode cX11_orientationOf 29 = .ok (.getfield 47, 3) := by decide +kernel
theorem dX11_orientationOf_32 : decode cX11_orientationOf 32 = .ok (.iload_n 1, 1) := by decide +kernel
theorem dX11_orientationOf_33 : decode cX11_orientationOf 33 = .ok (.iaload, 1) := by decide +kernel
theorem dX11_orientationOf_34 : decode cX11_orientationOf 34 = .ok (.ireturn, 1) := by decide +kernel
theorem dX11_setPageSize_0 : decode cX11_setPageSize 0 = .ok (.iload_n 1, 1) := by decide +kernel
theorem dX11_setPageSize_1 : decode cX11_setPageSize 1 = .ok (.iconst 4, 1) := by decide +kernel
theorem dX11_setPageSize_2 : decode cX11_setPageSize 2 = .ok (.bipush 32, 2) := by decide +kernel
theorem dX11_setPageSize_4 : decode cX11_setPageSize 4 = .ok (.invokestatic 86, 3) := by decide +kernel
theorem dX11_setPageSize_7 : decode cX11_setPageSize 7 = .ok (.ifCond .eq 13, 3) := by decide +kernel
theorem dX11_setPageSize_10 : decode cX11_setPageSize 10 = .ok (.iload_n 2, 1) := by decide +kernel
theorem dX11_setPageSize_11 : decode cX11_setPageSize 11 = .ok (.iconst 4, 1) := by decide +kernel
theorem dX11_setPageSize_12 : decode cX11_setPageSize 12 = .ok (.bipush 32, 2) := by decide +kernel
theorem dX11_setPageSize_14 : decode cX11_setPageSize 14 = .ok (.invokestatic 86, 3) := by decide +kernel
theorem dX11_setPageSize_17 : decode cX11_setPageSize 17 = .ok (.ifCond .ne 5, 3) := by decide +kernel
theorem dX11_setPageSize_20 : decode cX11_setPageSize 20 = .ok (.iconst (-1), 1) := by decide +kernel
theorem dX11_setPageSize_21 : decode cX11_setPageSize 21 = .ok (.ireturn, 1) := by decide +kernel
theorem dX11_setPageSize_22 : decode cX11_setPageSize 22 = .ok (.aload_n 0, 1) := by decide +kernel
theorem dX11_setPageSize_23 : decode cX11_setPageSize 23 = .ok (.getfield 7, 3) := by decide +kernel
theorem dX11_setPageSize_26 : decode cX11_setPageSize 26 = .ok (.iconst 2, 1) := by decide +kernel
theorem dX11_setPageSize_27 : decode cX11_setPageSize 27 = .ok (.iaload, 1) := by decide +kernel
theorem dX11_setPageSize_28 : decode cX11_setPageSize 28 = .ok (.istore_n 3, 1) := by decide +kernel
theorem dX11_setPageSize_29 : decode cX11_setPageSize 29 = .ok (.iload_n 3, 1) := by decide +kernel
theorem dX11_setPageSize_30 : decode cX11_setPageSize 30 = .ok (.bipush 100, 2) := by decide +kernel
theorem dX11_setPageSize_32 : decode cX11_setPageSize 32 = .ok (.aload_n 0, 1) := by decide +kernel
theorem dX11_setPageSize_33 : decode cX11_setPageSize 33 = .ok (.iconst 1, 1) := by decide +kernel
theorem dX11_setPageSize_34 : decode cX11_setPageSize 34 = .ok (.iload_n 1, 1) := by decide +kernel
theorem dX11_setPageSize_35 : decode cX11_setPageSize 35 = .ok (.invokevirtual 145, 3) := by decide +kernel
theorem dX11_setPageSize_38 : decode cX11_setPageSize 38 = .ok (.imul, 1) := by decide +kernel
theorem dX11_setPageSize_39 : decode cX11_setPageSize 39 = .ok (.iadd, 1) := by decide +kernel
theorem dX11_setPageSize_40 : decode cX11_setPageSize 40 = .ok (.istore_n 3, 1) := by decide +kernel
theorem dX11_setPageSize_41 : decode cX11_setPageSize 41 = .ok (.aload_n 0, 1) := by decide +kernel
theorem dX11_setPageSize_42 : decode cX11_setPageSize 42 = .ok (.getfield 7, 3) := by decide +kernel
theorem dX11_setPageSize_45 : decode cX11_setPageSize 45 = .ok (.iconst 2, 1) := by decide +kernel
theorem dX11_setPageSize_46 : decode cX11_setPageSize 46 = .ok (.iload_n 2, 1) := by decide +kernel
theorem dX11_setPageSize_47 : decode cX11_setPageSize 47 = .ok (.iastore, 1) := by decide +kernel
theorem dX11_setPageSize_48 : decode cX11_setPageSize 48 = .ok (.iload_n 3, 1) := by decide +kernel
theorem dX11_setPageSize_49 : decode cX11_setPageSize 49 = .ok (.ireturn, 1) := by decide +kernel
theorem dX11_setPageLimit_0 : decode cX11_setPageLimit 0 = .ok (.iload_n 1, 1) := by decide +kernel
theorem dX11_setPageLimit_1 : decode cX11_setPageLimit 1 = .ok (.iconst 1, 1) := by decide +kernel
theorem dX11_setPageLimit_2 : decode cX11_setPageLimit 2 = .ok (.iconst 4, 1) := by decide +kernel
theorem dX11_setPageLimit_3 : decode cX11_setPageLimit 3 = .ok (.invokestatic 86, 3) := by decide +kernel
theorem dX11_setPageLimit_6 : decode cX11_setPageLimit 6 = .ok (.ifCond .eq 12, 3) := by decide +kernel
theorem dX11_setPageLimit_9 : decode cX11_setPageLimit 9 = .ok (.aload_n 0, 1) := by decide +kernel
theorem dX11_setPageLimit_10 : decode cX11_setPageLimit 10 = .ok (.iconst 3, 1) := by decide +kernel
theorem dX11_setPageLimit_11 : decode cX11_setPageLimit 11 = .ok (.iload_n 1, 1) := by decide +kernel
theorem dX11_setPageLimit_12 : decode cX11_setPageLimit 12 = .ok (.invokevirtual 145, 3) := by decide +kernel
theorem dX11_setPageLimit_15 : decode cX11_setPageLimit 15 = .ok (.goto 4, 3) := by decide +kernel
theorem dX11_setPageLimit_18 : decode cX11_setPageLimit 18 = .ok (.iconst (-1), 1) := by decide +kernel
theorem dX11_setPageLimit_19 : decode cX11_setPageLimit 19 = .ok (.ireturn, 1) := by decide +kernel
theorem dX11_setMargins_0 : decode cX11_setMargins 0 = .ok (.iload_n 1, 1) := by decide +kernel
theorem dX11_setMargins_1 : decode cX11_setMargins 1 = .ok (.iconst 0, 1) := by decide +kernel
theorem dX11_setMargins_2 : decode cX11_setMargins 2 = .ok (.iconst 3, 1) := by decide +kernel
theorem dX11_setMargins_3 : decode cX11_setMargins 3 = .ok (.invokestatic 86, 3) := by decide +kernel
theorem dX11_setMargins_6 : decode cX11_setMargins 6 = .ok (.ifCond .eq 21, 3) := by decide +kernel
theorem dX11_setMargins_9 : decode cX11_setMargins 9 = .ok (.iload_n 2, 1) := by decide +kernel
theorem dX11_setMargins_10 : decode cX11_setMargins 10 = .ok (.iconst 0, 1) := by decide +kernel
theorem dX11_setMargins_11 : decode cX11_setMargins 11 = .ok (.iconst 3, 1) := by decide +kernel
theorem dX11_setMargins_12 : decode cX11_setMargins 12 = .ok (.invokestatic 86, 3) := by decide +kernel
theorem dX11_setMargins_15 : decode cX11_setMargins 15 = .ok (.ifCond .eq 12, 3) := by decide +kernel
theorem dX11_setMargins_18 : decode cX11_setMargins 18 = .ok (.iload_n 3, 1) := by decide +kernel
theorem dX11_setMargins_19 : decode cX11_setMargins 19 = .ok (.iconst 0, 1) := by decide +kernel
theorem dX11_setMargins_20 : decode cX11_setMargins 20 = .ok (.iconst 2, 1) := by decide +kernel
theorem dX11_setMargins_21 : decode cX11_setMargins 21 = .ok (.invokestatic 86, 3) := by decide +kernel
theorem dX11_setMargins_24 : decode cX11_setMargins 24 = .ok (.ifCond .ne 5, 3) := by decide +kernel
theorem dX11_setMargins_27 : decode cX11_setMargins 27 = .ok (.iconst (-1), 1) := by decide +kernel
theorem dX11_setMargins_28 : decode cX11_setMargins 28 = .ok (.ireturn, 1) := by decide +kernel
theorem dX11_setMargins_29 : decode cX11_setMargins 29 = .ok (.bipush 10, 2) := by decide +kernel
theorem dX11_setMargins_31 : decode cX11_setMargins 31 = .ok (.aload_n 0, 1) := by decide +kernel
theorem dX11_setMargins_32 : decode cX11_setMargins 32 = .ok (.getfield 7, 3) := by decide +kernel
theorem dX11_setMargins_35 : decode cX11_setMargins 35 = .ok (.iconst 5, 1) := by decide +kernel
theorem dX11_setMargins_36 : decode cX11_setMargins 36 = .ok (.iaload, 1) := by decide +kernel
theorem dX11_setMargins_37 : decode cX11_setMargins 37 = .ok (.imul, 1) := by decide +kernel
theorem dX11_setMargins_38 : decode cX11_setMargins 38 = .ok (.aload_n 0, 1) := by decide +kernel
theorem dX11_setMargins_39 : decode cX11_setMargins 39 = .ok (.getfield 7, 3) := by decide +kernel
theorem dX11_setMargins_42 : decode cX11_setMargins 42 = .ok (.bipush 6, 2) := by decide +kernel
theorem dX11_setMargins_44 : decode cX11_setMargins 44 = .ok (.iaload, 1) := by decide +kernel
theorem dX11_setMargins_45 : decode cX11_setMargins 45 = .ok (.iadd, 1) := by decide +kernel
theorem dX11_setMargins_46 : decode cX11_setMargins 46 = .ok (.istore 4, 2) := by decide +kernel
theorem dX11_setMargins_48 : decode cX11_setMargins 48 = .ok (.iload 4, 2) := by decide +kernel
theorem dX11_setMargins_50 : decode cX11_setMargins 50 = .ok (.bipush 100, 2) := by decide +kernel
theorem dX11_setMargins_52 : decode cX11_setMargins 52 = .ok (.aload_n 0, 1) := by decide +kernel
theorem dX11_setMargins_53 : decode cX11_setMargins 53 = .ok (.iconst 4, 1) := by decide +kernel
theorem dX11_setMargins_54 : decode cX11_setMargins 54 = .ok (.iload_n 1, 1) := by decide +kernel
theorem dX11_setMargins_55 : decode cX11_setMargins 55 = .ok (.invokevirtual 145, 3) := by decide +kernel
theorem dX11_setMargins_58 : decode cX11_setMargins 58 = .ok (.imul, 1) := by decide +kernel
theorem dX11_setMargins_59 : decode cX11_setMargins 59 = .ok (.iadd, 1) := by decide +kernel
theorem dX11_setMargins_60 : decode cX11_setMargins 60 = .ok (.istore 4, 2) := by decide +kernel
theorem dX11_setMargins_62 : decode cX11_setMargins 62 = .ok (.aload_n 0, 1) := by decide +kernel
theorem dX11_setMargins_63 : decode cX11_setMargins 63 = .ok (.getfield 7, 3) := by decide +kernel
theorem dX11_setMargins_66 : decode cX11_setMargins 66 = .ok (.iconst 5, 1) := by decide +kernel
theorem dX11_setMargins_67 : decode cX11_setMargins 67 = .ok (.iload_n 2, 1) := by decide +kernel
theorem dX11_setMargins_68 : decode cX11_setMargins 68 = .ok (.iastore, 1) := by decide +kernel
theorem dX11_setMargins_69 : decode cX11_setMargins 69 = .ok (.aload_n 0, 1) := by decide +kernel
theorem dX11_setMargins_70 : decode cX11_setMargins 70 = .ok (.getfield 7, 3) := by decide +kernel
theorem dX11_setMargins_73 : decode cX11_setMargins 73 = .ok (.bipush 6, 2) := by decide +kernel
theorem dX11_setMargins_75 : decode cX11_setMargins 75 = .ok (.iload_n 3, 1) := by decide +kernel
theorem dX11_setMargins_76 : decode cX11_setMargins 76 = .ok (.iastore, 1) := by decide +kernel
theorem dX11_setMargins_77 : decode cX11_setMargins 77 = .ok (.iload 4, 2) := by decide +kernel
theorem dX11_setMargins_79 : decode cX11_setMargins 79 = .ok (.ireturn, 1) := by decide +kernel
theorem dX11_setTrimming_0 : decode cX11_setTrimming 0 = .ok (.aload_n 0, 1) := by decide +kernel
theorem dX11_setTrimming_1 : decode cX11_setTrimming 1 = .ok (.bipush 7, 2) := by decide +kernel
theorem dX11_setTrimming_3 : decode cX11_setTrimming 3 = .ok (.iload_n 1, 1) := by decide +kernel
theorem dX11_setTrimming_4 : decode cX11_setTrimming 4 = .ok (.ifCond .eq 7, 3) := by decide +kernel
theorem dX11_setTrimming_7 : decode cX11_setTrimming 7 = .ok (.iconst 1, 1) := by decide +kernel
theorem dX11_setTrimming_8 : decode cX11_setTrimming 8 = .ok (.goto 4, 3) := by decide +kernel
theorem dX11_setTrimming_11 : decode cX11_setTrimming 11 = .ok (.iconst 0, 1) := by decide +kernel
theorem dX11_setTrimming_12 : decode cX11_setTrimming 12 = .ok (.invokevirtual 145, 3) := by decide +kernel
theorem dX11_setTrimming_15 : decode cX11_setTrimming 15 = .ok (.ireturn, 1) := by decide +kernel
theorem dX11_setMatching_0 : decode cX11_setMatching 0 = .ok (.iload_n 1, 1) := by decide +kernel
theorem dX11_setMatching_1 : decode cX11_setMatching 1 = .ok (.iconst 0, 1) := by decide +kernel
theorem dX11_setMatching_2 : decode cX11_setMatching 2 = .ok (.iconst 3, 1) := by decide +kernel
theorem dX11_setMatching_3 : decode cX11_setMatching 3 = .ok (.invokestatic 86, 3) := by decide +kernel
theorem dX11_setMatching_6 : decode cX11_setMatching 6 = .ok (.ifCond .eq 13, 3) := by decide +kernel
theorem dX11_setMatching_9 : decode cX11_setMatching 9 = .ok (.aload_n 0, 1) := by decide +kernel
theorem dX11_setMatching_10 : decode cX11_setMatching 10 = .ok (.bipush 8, 2) := by decide +kernel
theorem dX11_setMatching_12 : decode cX11_setMatching 12 = .ok (.iload_n 1, 1) := by decide +kernel
theorem dX11_setMatching_13 : decode cX11_setMatching 13 = .ok (.invokevirtual 145, 3) := by decide +kernel
theorem dX11_setMatching_16 : decode cX11_setMatching 16 = .ok (.goto 4, 3) := by decide +kernel
theorem dX11_setMatching_19 : decode cX11_setMatching 19 = .ok (.iconst (-1), 1) := by decide +kernel
theorem dX11_setMatching_20 : decode cX11_setMatching 20 = .ok (.ireturn, 1) := by decide +kernel
theorem dX11_setRotation_0 : decode cX11_setRotation 0 = .ok (.aload_n 0, 1) := by decide +kernel
theorem dX11_setRotation_1 : decode cX11_setRotation 1 = .ok (.bipush 9, 2) := by decide +kernel
theorem dX11_setRotation_3 : decode cX11_setRotation 3 = .ok (.iload_n 1, 1) := by decide +kernel
theorem dX11_setRotation_4 : decode cX11_setRotation 4 = .ok (.ifCond .eq 7, 3) := by decide +kernel
theorem dX11_setRotation_7 : decode cX11_setRotation 7 = .ok (.iconst 1, 1) := by decide +kernel
theorem dX11_setRotation_8 : decode cX11_setRotation 8 = .ok (.goto 4, 3) := by decide +kernel
theorem dX11_setRotation_11 : decode cX11_setRotation 11 = .ok (.iconst 0, 1) := by decide +kernel
theorem dX11_setRotation_12 : decode cX11_setRotation 12 = .ok (.invokevirtual 145, 3) := by decide +kernel
theorem dX11_setRotation_15 : decode cX11_setRotation 15 = .ok (.ireturn, 1) := by decide +kernel
theorem dX11_setGrouped_0 : decode cX11_setGrouped 0 = .ok (.aload_n 0, 1) := by decide +kernel
theorem dX11_setGrouped_1 : decode cX11_setGrouped 1 = .ok (.bipush 10, 2) := by decide +kernel
theorem dX11_setGrouped_3 : decode cX11_setGrouped 3 = .ok (.iload_n 1, 1) := by decide +kernel
theorem dX11_setGrouped_4 : decode cX11_setGrouped 4 = .ok (.ifCond .eq 7, 3) := by decide +kernel
theorem dX11_setGrouped_7 : decode cX11_setGrouped 7 = .ok (.iconst 1, 1) := by decide +kernel
theorem dX11_setGrouped_8 : decode cX11_setGrouped 8 = .ok (.goto 4, 3) := by decide +kernel
theorem dX11_setGrouped_11 : decode cX11_setGrouped 11 = .ok (.iconst 0, 1) := by decide +kernel
theorem dX11_setGrouped_12 : decode cX11_setGrouped 12 = .ok (.invokevirtual 145, 3) := by decide +kernel
theorem dX11_setGrouped_15 : decode cX11_setGrouped 15 = .ok (.ireturn, 1) := by decide +kernel
theorem dX11_setOrder_0 : decode cX11_setOrder 0 = .ok (.iload_n 1, 1) := by decide +kernel
theorem dX11_setOrder_1 : decode cX11_setOrder 1 = .ok (.iconst 0, 1) := by decide +kernel
theorem dX11_setOrder_2 : decode cX11_setOrder 2 = .ok (.iconst 3, 1) := by decide +kernel
theorem dX11_setOrder_3 : decode cX11_setOrder 3 = .ok (.invokestatic 86, 3) := by decide +kernel
theorem dX11_setOrder_6 : decode cX11_setOrder 6 = .ok (.ifCond .eq 13, 3) := by decide +kernel
theorem dX11_setOrder_9 : decode cX11_setOrder 9 = .ok (.aload_n 0, 1) := by decide +kernel
theorem dX11_setOrder_10 : decode cX11_setOrder 10 = .ok (.bipush 11, 2) := by decide +kernel
theorem dX11_setOrder_12 : decode cX11_setOrder 12 = .ok (.iload_n 1, 1) := by decide +kernel
theorem dX11_setOrder_13 : decode cX11_setOrder 13 = .ok (.invokevirtual 145, 3) := by decide +kernel
theorem dX11_setOrder_16 : decode cX11_setOrder 16 = .ok (.goto 4, 3) := by decide +kernel
theorem dX11_setOrder_19 : decode cX11_setOrder 19 = .ok (.iconst (-1), 1) := by decide +kernel
theorem dX11_setOrder_20 : decode cX11_setOrder 20 = .ok (.ireturn, 1) := by decide +kernel
theorem dX11_setWay_0 : decode cX11_setWay 0 = .ok (.iload_n 1, 1) := by decide +kernel
theorem dX11_setWay_1 : decode cX11_setWay 1 = .ok (.iconst 0, 1) := by decide +kernel
theorem dX11_setWay_2 : decode cX11_setWay 2 = .ok (.iconst 3, 1) := by decide +kernel
theorem dX11_setWay_3 : decode cX11_setWay 3 = .ok (.invokestatic 86, 3) := by decide +kernel
theorem dX11_setWay_6 : decode cX11_setWay 6 = .ok (.ifCond .eq 13, 3) := by decide +kernel
theorem dX11_setWay_9 : decode cX11_setWay 9 = .ok (.aload_n 0, 1) := by decide +kernel
theorem dX11_setWay_10 : decode cX11_setWay 10 = .ok (.bipush 12, 2) := by decide +kernel
theorem dX11_setWay_12 : decode cX11_setWay 12 = .ok (.iload_n 1, 1) := by decide +kernel
theorem dX11_setWay_13 : decode cX11_setWay 13 = .ok (.invokevirtual 145, 3) := by decide +kernel
theorem dX11_setWay_16 : decode cX11_setWay 16 = .ok (.goto 4, 3) := by decide +kernel
theorem dX11_setWay_19 : decode cX11_setWay 19 = .ok (.iconst (-1), 1) := by decide +kernel
theorem dX11_setWay_20 : decode cX11_setWay 20 = .ok (.ireturn, 1) := by decide +kernel
theorem dX11_fieldWidth_0 : decode cX11_fieldWidth 0 = .ok (.aload_n 0, 1) := by decide +kernel
theorem dX11_fieldWidth_1 : decode cX11_fieldWidth 1 = .ok (.getfield 7, 3) := by decide +kernel
theorem dX11_fieldWidth_4 : decode cX11_fieldWidth 4 = .ok (.iconst 1, 1) := by decide +kernel
theorem dX11_fieldWidth_5 : decode cX11_fieldWidth 5 = .ok (.iaload, 1) := by decide +kernel
theorem dX11_fieldWidth_6 : decode cX11_fieldWidth 6 = .ok (.iconst 2, 1) := by decide +kernel
theorem dX11_fieldWidth_7 : decode cX11_fieldWidth 7 = .ok (.aload_n 0, 1) := by decide +kernel
theorem dX11_fieldWidth_8 : decode cX11_fieldWidth 8 = .ok (.getfield 7, 3) := by decide +kernel
theorem dX11_fieldWidth_11 : decode cX11_fieldWidth 11 = .ok (.iconst 5, 1) := by decide +kernel
theorem dX11_fieldWidth_12 : decode cX11_fieldWidth 12 = .ok (.iaload, 1) := by decide +kernel
theorem dX11_fieldWidth_13 : decode cX11_fieldWidth 13 = .ok (.imul, 1) := by decide +kernel
theorem dX11_fieldWidth_14 : decode cX11_fieldWidth 14 = .ok (.isub, 1) := by decide +kernel
theorem dX11_fieldWidth_15 : decode cX11_fieldWidth 15 = .ok (.aload_n 0, 1) := by decide +kernel
theorem dX11_fieldWidth_16 : decode cX11_fieldWidth 16 = .ok (.getfield 7, 3) := by decide +kernel
theorem dX11_fieldWidth_19 : decode cX11_fieldWidth 19 = .ok (.iconst 4, 1) := by decide +kernel
theorem dX11_fieldWidth_20 : decode cX11_fieldWidth 20 = .ok (.iaload, 1) := by decide +kernel
theorem dX11_fieldWidth_21 : decode cX11_fieldWidth 21 = .ok (.iadd, 1) := by decide +kernel
theorem dX11_fieldWidth_22 : decode cX11_fieldWidth 22 = .ok (.ireturn, 1) := by decide +kernel
theorem dX11_fieldHeight_0 : decode cX11_fieldHeight 0 = .ok (.aload_n 0, 1) := by decide +kernel
theorem dX11_fieldHeight_1 : decode cX11_fieldHeight 1 = .ok (.getfield 7, 3) := by decide +kernel
theorem dX11_fieldHeight_4 : decode cX11_fieldHeight 4 = .ok (.iconst 2, 1) := by decide +kernel
theorem dX11_fieldHeight_5 : decode cX11_fieldHeight 5 = .ok (.iaload, 1) := by decide +kernel
theorem dX11_fieldHeight_6 : decode cX11_fieldHeight 6 = .ok (.iconst 2, 1) := by decide +kernel
theorem dX11_fieldHeight_7 : decode cX11_fieldHeight 7 = .ok (.aload_n 0, 1) := by decide +kernel
theorem dX11_fieldHeight_8 : decode cX11_fieldHeight 8 = .ok (.getfield 7, 3) := by decide +kernel
theorem dX11_fieldHeight_11 : decode cX11_fieldHeight 11 = .ok (.iconst 5, 1) := by decide +kernel
theorem dX11_fieldHeight_12 : decode cX11_fieldHeight 12 = .ok (.iaload, 1) := by decide +kernel
theorem dX11_fieldHeight_13 : decode cX11_fieldHeight 13 = .ok (.imul, 1) := by decide +kernel
theorem dX11_fieldHeight_14 : decode cX11_fieldHeight 14 = .ok (.isub, 1) := by decide +kernel
theorem dX11_fieldHeight_15 : decode cX11_fieldHeight 15 = .ok (.aload_n 0, 1) := by decide +kernel
theorem dX11_fieldHeight_16 : decode cX11_fieldHeight 16 = .ok (.getfield 7, 3) := by decide +kernel
theorem dX11_fieldHeight_19 : decode cX11_fieldHeight 19 = .ok (.iconst 4, 1) := by decide +kernel
theorem dX11_fieldHeight_20 : decode cX11_fieldHeight 20 = .ok (.iaload, 1) := by decide +kernel
theorem dX11_fieldHeight_21 : decode cX11_fieldHeight 21 = .ok (.iadd, 1) := by decide +kernel
theorem dX11_fieldHeight_22 : decode cX11_fieldHeight 22 = .ok (.ireturn, 1) := by decide +kernel
theorem dX11_imageWidth_0 : decode cX11_imageWidth 0 = .ok (.iload_n 2, 1) := by decide +kernel
theorem dX11_imageWidth_1 : decode cX11_imageWidth 1 = .ok (.iconst 1, 1) := by decide +kernel
theorem dX11_imageWidth_2 : decode cX11_imageWidth 2 = .ok (.if_icmp .ne 12, 3) := by decide +kernel
theorem dX11_imageWidth_5 : decode cX11_imageWidth 5 = .ok (.aload_n 0, 1) := by decide +kernel
theorem dX11_imageWidth_6 : decode cX11_imageWidth 6 = .ok (.getfield 41, 3) := by decide +kernel
theorem dX11_imageWidth_9 : decode cX11_imageWidth 9 = .ok (.iload_n 1, 1) := by decide +kernel
theorem dX11_imageWidth_10 : decode cX11_imageWidth 10 = .ok (.iaload, 1) := by decide +kernel
theorem dX11_imageWidth_11 : decode cX11_imageWidth 11 = .ok (.goto 9, 3) := by decide +kernel
theorem dX11_imageWidth_14 : decode cX11_imageWidth 14 = .ok (.aload_n 0, 1) := by decide +kernel
theorem dX11_imageWidth_15 : decode cX11_imageWidth 15 = .ok (.getfield 38, 3) := by decide +kernel
theorem dX11_imageWidth_18 : decode cX11_imageWidth 18 = .ok (.iload_n 1, 1) := by decide +kernel
theorem dX11_imageWidth_19 : decode cX11_imageWidth 19 = .ok (.iaload, 1) := by decide +kernel
theorem dX11_imageWidth_20 : decode cX11_imageWidth 20 = .ok (.ireturn, 1) := by decide +kernel
theorem dX11_imageHeight_0 : decode cX11_imageHeight 0 = .ok (.iload_n 2, 1) := by decide +kernel
theorem dX11_imageHeight_1 : decode cX11_imageHeight 1 = .ok (.iconst 1, 1) := by decide +kernel
theorem dX11_imageHeight_2 : decode cX11_imageHeight 2 = .ok (.if_icmp .ne 12, 3) := by decide +kernel
theorem dX11_imageHeight_5 : decode cX11_imageHeight 5 = .ok (.aload_n 0, 1) := by decide +kernel
theorem dX11_imageHeight_6 : decode cX11_imageHeight 6 = .ok (.getfield 38, 3) := by decide +kernel
theorem dX11_imageHeight_9 : decode cX11_imageHeight 9 = .ok (.iload_n 1, 1) := by decide +kernel
theorem dX11_imageHeight_10 : decode cX11_imageHeight 10 = .ok (.iaload, 1) := by decide +kernel
theorem dX11_imageHeight_11 : decode cX11_imageHeight 11 = .ok (.goto 9, 3) := by decide +kernel
theorem dX11_imageHeight_14 : decode cX11_imageHeight 14 = .ok (.aload_n 0, 1) := by decide +kernel
theorem dX11_imageHeight_15 : decode cX11_imageHeight 15 = .ok (.getfield 41, 3) := by decide +kernel
theorem dX11_imageHeight_18 : decode cX11_imageHeight 18 = .ok (.iload_n 1, 1) := by decide +kernel
theorem dX11_imageHeight_19 : decode cX11_imageHeight 19 = .ok (.iaload, 1) := by decide +kernel
theorem dX11_imageHeight_20 : decode cX11_imageHeight 20 = .ok (.ireturn, 1) := by decide +kernel
theorem dX11_boxWidth_0 : decode cX11_boxWidth 0 = .ok (.aload_n 0, 1) := by decide +kernel
theorem dX11_boxWidth_1 : decode cX11_boxWidth 1 = .ok (.iload_n 1, 1) := by decide +kernel
theorem dX11_boxWidth_2 : decode cX11_boxWidth 2 = .ok (.iload_n 2, 1) := by decide +kernel
theorem dX11_boxWidth_3 : decode cX11_boxWidth 3 = .ok (.invokevirtual 179, 3) := by decide +kernel
theorem dX11_boxWidth_6 : decode cX11_boxWidth 6 = .ok (.iconst 2, 1) := by decide +kernel
theorem dX11_boxWidth_7 : decode cX11_boxWidth 7 = .ok (.aload_n 0, 1) := by decide +kernel
theorem dX11_boxWidth_8 : decode cX11_boxWidth 8 = .ok (.getfield 7, 3) := by decide +kernel
theorem dX11_boxWidth_11 : decode cX11_boxWidth 11 = .ok (.bipush 6, 2) := by decide +kernel
theorem dX11_boxWidth_13 : decode cX11_boxWidth 13 = .ok (.iaload, 1) := by decide +kernel
theorem dX11_boxWidth_14 : decode cX11_boxWidth 14 = .ok (.imul, 1) := by decide +kernel
theorem dX11_boxWidth_15 : decode cX11_boxWidth 15 = .ok (.iadd, 1) := by decide +kernel
theorem dX11_boxWidth_16 : decode cX11_boxWidth 16 = .ok (.aload_n 0, 1) := by decide +kernel
theorem dX11_boxWidth_17 : decode cX11_boxWidth 17 = .ok (.getfield 7, 3) := by decide +kernel
theorem dX11_boxWidth_20 : decode cX11_boxWidth 20 = .ok (.iconst 4, 1) := by decide +kernel
theorem dX11_boxWidth_21 : decode cX11_boxWidth 21 = .ok (.iaload, 1) := by decide +kernel
theorem dX11_boxWidth_22 : decode cX11_boxWidth 22 = .ok (.iadd, 1) := by decide +kernel
theorem dX11_boxWidth_23 : decode cX11_boxWidth 23 = .ok (.ireturn, 1) := by decide +kernel
theorem dX11_boxHeight_0 : decode cX11_boxHeight 0 = .ok (.aload_n 0, 1) := by decide +kernel
theorem dX11_boxHeight_1 : decode cX11_boxHeight 1 = .ok (.iload_n 1, 1) := by decide +kernel
theorem dX11_boxHeight_2 : decode cX11_boxHeight 2 = .ok (.iload_n 2, 1) := by decide +kernel
theorem dX11_boxHeight_3 : decode cX11_boxHeight 3 = .ok (.invokevirtual 182, 3) := by decide +kernel
theorem dX11_boxHeight_6 : decode cX11_boxHeight 6 = .ok (.iconst 2, 1) := by decide +kernel
theorem dX11_boxHeight_7 : decode cX11_boxHeight 7 = .ok (.aload_n 0, 1) := by decide +kernel
theorem dX11_boxHeight_8 : decode cX11_boxHeight 8 = .ok (.getfield 7, 3) := by decide +kernel
theorem dX11_boxHeight_11 : decode cX11_boxHeight 11 = .ok (.bipush 6, 2) := by decide +kernel
theorem dX11_boxHeight_13 : decode cX11_boxHeight 13 = .ok (.iaload, 1) := by decide +kernel
theorem dX11_boxHeight_14 : decode cX11_boxHeight 14 = .ok (.imul, 1) := by decide +kernel
theorem dX11_boxHeight_15 : decode cX11_boxHeight 15 = .ok (.iadd, 1) := by decide +kernel
theorem dX11_boxHeight_16 : decode cX11_boxHeight 16 = .ok (.aload_n 0, 1) := by decide +kernel
theorem dX11_boxHeight_17 : decode cX11_boxHeight 17 = .ok (.getfield 7, 3) := by decide +kernel
theorem dX11_boxHeight_20 : decode cX11_boxHeight 20 = .ok (.iconst 4, 1) := by decide +kernel
theorem dX11_boxHeight_21 : decode cX11_boxHeight 21 = .ok (.iaload, 1) := by decide +kernel
theorem dX11_boxHeight_22 : decode cX11_boxHeight 22 = .ok (.iadd, 1) := by decide +kernel
theorem dX11_boxHeight_23 : decode cX11_boxHeight 23 = .ok (.ireturn, 1) := by decide +kernel
theorem dX11_boxesOf_0 : decode cX11_boxesOf 0 = .ok (.aload_n 0, 1) := by decide +kernel
theorem dX11_boxesOf_1 : decode cX11_boxesOf 1 = .ok (.iconst 0, 1) := by decide +kernel
theorem dX11_boxesOf_2 : decode cX11_boxesOf 2 = .ok (.putfield 185, 3) := by decide +kernel
theorem dX11_boxesOf_5 : decode cX11_boxesOf 5 = .ok (.iconst 0, 1) := by decide +kernel
theorem dX11_boxesOf_6 : decode cX11_boxesOf 6 = .ok (.istore_n 2, 1) := by decide +kernel
theorem dX11_boxesOf_7 : decode cX11_boxesOf 7 = .ok (.iload_n 2, 1) := by decide +kernel
theorem dX11_boxesOf_8 : decode cX11_boxesOf 8 = .ok (.aload_n 0, 1) := by decide +kernel
theorem dX11_boxesOf_9 : decode cX11_boxesOf 9 = .ok (.getfield 7, 3) := by decide +kernel
theorem dX11_boxesOf_12 : decode cX11_boxesOf 12 = .ok (.iconst 0, 1) := by decide +kernel
theorem dX11_boxesOf_13 : decode cX11_boxesOf 13 = .ok (.iaload, 1) := by decide +kernel
theorem dX11_boxesOf_14 : decode cX11_boxesOf 14 = .ok (.if_icmp .ge 204, 3) := by decide +kernel
theorem dX11_boxesOf_17 : decode cX11_boxesOf 17 = .ok (.aload_n 0, 1) := by decide +kernel
theorem dX11_boxesOf_18 : decode cX11_boxesOf 18 = .ok (.getfield 7, 3) := by decide +kernel
theorem dX11_boxesOf_21 : decode cX11_boxesOf 21 = .ok (.iload_n 2, 1) := by decide +kernel
theorem dX11_boxesOf_22 : decode cX11_boxesOf 22 = .ok (.iconst 3, 1) := by decide +kernel
theorem dX11_boxesOf_23 : decode cX11_boxesOf 23 = .ok (.invokestatic 94, 3) := by decide +kernel
theorem dX11_boxesOf_26 : decode cX11_boxesOf 26 = .ok (.iaload, 1) := by decide +kernel
theorem dX11_boxesOf_27 : decode cX11_boxesOf 27 = .ok (.iload_n 1, 1) := by decide +kernel
theorem dX11_boxesOf_28 : decode cX11_boxesOf 28 = .ok (.if_icmp .eq 6, 3) := by decide +kernel
theorem dX11_boxesOf_31 : decode cX11_boxesOf 31 = .ok (.goto 181, 3) := by decide +kernel
theorem dX11_boxesOf_34 : decode cX11_boxesOf 34 = .ok (.aload_n 0, 1) := by decide +kernel
theorem dX11_boxesOf_35 : decode cX11_boxesOf 35 = .ok (.getfield 185, 3) := by decide +kernel
theorem dX11_boxesOf_38 : decode cX11_boxesOf 38 = .ok (.istore_n 3, 1) := by decide +kernel
theorem dX11_boxesOf_39 : decode cX11_boxesOf 39 = .ok (.iload_n 3, 1) := by decide +kernel
theorem dX11_boxesOf_40 : decode cX11_boxesOf 40 = .ok (.ifCond .le 86, 3) := by decide +kernel
theorem dX11_boxesOf_43 : decode cX11_boxesOf 43 = .ok (.aload_n 0, 1) := by decide +kernel
theorem dX11_boxesOf_44 : decode cX11_boxesOf 44 = .ok (.getfield 53, 3) := by decide +kernel
theorem dX11_boxesOf_47 : decode cX11_boxesOf 47 = .ok (.iload_n 3, 1) := by decide +kernel
theorem dX11_boxesOf_48 : decode cX11_boxesOf 48 = .ok (.iconst 1, 1) := by decide +kernel
theorem dX11_boxesOf_49 : decode cX11_boxesOf 49 = .ok (.isub, 1) := by decide +kernel
theorem dX11_boxesOf_50 : decode cX11_boxesOf 50 = .ok (.iaload, 1) := by decide +kernel
theorem dX11_boxesOf_51 : decode cX11_boxesOf 51 = .ok (.aload_n 0, 1) := by decide +kernel
theorem dX11_boxesOf_52 : decode cX11_boxesOf 52 = .ok (.getfield 7, 3) := by decide +kernel
theorem dX11_boxesOf_55 : decode cX11_boxesOf 55 = .ok (.iload_n 2, 1) := by decide +kernel
theorem dX11_boxesOf_56 : decode cX11_boxesOf 56 = .ok (.iconst 5, 1) := by decide +kernel
theorem dX11_boxesOf_57 : decode cX11_boxesOf 57 = .ok (.invokestatic 94, 3) := by decide +kernel
theorem dX11_boxesOf_60 : decode cX11_boxesOf 60 = .ok (.iaload, 1) := by decide +kernel
theorem dX11_boxesOf_61 : decode cX11_boxesOf 61 = .ok (.if_icmp .le 65, 3) := by decide +kernel
theorem dX11_boxesOf_64 : decode cX11_boxesOf 64 = .ok (.aload_n 0, 1) := by decide +kernel
theorem dX11_boxesOf_65 : decode cX11_boxesOf 65 = .ok (.getfield 50, 3) := by decide +kernel
theorem dX11_boxesOf_68 : decode cX11_boxesOf 68 = .ok (.iload_n 3, 1) := by decide +kernel
theorem dX11_boxesOf_69 : decode cX11_boxesOf 69 = .ok (.aload_n 0, 1) := by decide +kernel
theorem dX11_boxesOf_70 : decode cX11_boxesOf 70 = .ok (.getfield 50, 3) := by decide +kernel
theorem dX11_boxesOf_73 : decode cX11_boxesOf 73 = .ok (.iload_n 3, 1) := by decide +kernel
theorem dX11_boxesOf_74 : decode cX11_boxesOf 74 = .ok (.iconst 1, 1) := by decide +kernel
theorem dX11_boxesOf_75 : decode cX11_boxesOf 75 = .ok (.isub, 1) := by decide +kernel
theorem dX11_boxesOf_76 : decode cX11_boxesOf 76 = .ok (.iaload, 1) := by decide +kernel
theorem dX11_boxesOf_77 : decode cX11_boxesOf 77 = .ok (.iastore, 1) := by decide +kernel
theorem dX11_boxesOf_78 : decode cX11_boxesOf 78 = .ok (.aload_n 0, 1) := by decide +kernel
theorem dX11_boxesOf_79 : decode cX11_boxesOf 79 = .ok (.getfield 53, 3) := by decide +kernel
theorem dX11_boxesOf_82 : decode cX11_boxesOf 82 = .ok (.iload_n 3, 1) := by decide +kernel
theorem dX11_boxesOf_83 : decode cX11_boxesOf 83 = .ok (.aload_n 0, 1) := by decide +kernel
theorem dX11_boxesOf_84 : decode cX11_boxesOf 84 = .ok (.getfield 53, 3) := by decide +kernel
theorem dX11_boxesOf_87 : decode cX11_boxesOf 87 = .ok (.iload_n 3, 1) := by decide +kernel
theorem dX11_boxesOf_88 : decode cX11_boxesOf 88 = .ok (.iconst 1, 1) := by decide +kernel
theorem dX11_boxesOf_89 : decode cX11_boxesOf 89 = .ok (.isub, 1) := by decide +kernel
theorem dX11_boxesOf_90 : decode cX11_boxesOf 90 = .ok (.iaload, 1) := by decide +kernel
theorem dX11_boxesOf_91 : decode cX11_boxesOf 91 = .ok (.iastore, 1) := by decide +kernel
theorem dX11_boxesOf_92 : decode cX11_boxesOf 92 = .ok (.aload_n 0, 1) := by decide +kernel
theorem dX11_boxesOf_93 : decode cX11_boxesOf 93 = .ok (.getfield 56, 3) := by decide +kernel
theorem dX11_boxesOf_96 : decode cX11_boxesOf 96 = .ok (.iload_n 3, 1) := by decide +kernel
theorem dX11_boxesOf_97 : decode cX11_boxesOf 97 = .ok (.aload_n 0, 1) := by decide +kernel
theorem dX11_boxesOf_98 : decode cX11_boxesOf 98 = .ok (.getfield 56, 3) := by decide +kernel
theorem dX11_boxesOf_101 : decode cX11_boxesOf 101 = .ok (.iload_n 3, 1) := by decide +kernel
theorem dX11_boxesOf_102 : decode cX11_boxesOf 102 = .ok (.iconst 1, 1) := by decide +kernel
theorem dX11_boxesOf_103 : decode cX11_boxesOf 103 = .ok (.isub, 1) := by decide +kernel
theorem dX11_boxesOf_104 : decode cX11_boxesOf 104 = .ok (.iaload, 1) := by decide +kernel
theorem dX11_boxesOf_105 : decode cX11_boxesOf 105 = .ok (.iastore, 1) := by decide +kernel
theorem dX11_boxesOf_106 : decode cX11_boxesOf 106 = .ok (.aload_n 0, 1) := by decide +kernel
theorem dX11_boxesOf_107 : decode cX11_boxesOf 107 = .ok (.getfield 59, 3) := by decide +kernel
theorem dX11_boxesOf_110 : decode cX11_boxesOf 110 = .ok (.iload_n 3, 1) := by decide +kernel
theorem dX11_boxesOf_111 : decode cX11_boxesOf 111 = .ok (.aload_n 0, 1) := by decide +kernel
theorem dX11_boxesOf_112 : decode cX11_boxesOf 112 = .ok (.getfield 59, 3) := by decide +kernel
theorem dX11_boxesOf_115 : decode cX11_boxesOf 115 = .ok (.iload_n 3, 1) := by decide +kernel
theorem dX11_boxesOf_116 : decode cX11_boxesOf 116 = .ok (.iconst 1, 1) := by decide +kernel
theorem dX11_boxesOf_117 : decode cX11_boxesOf 117 = .ok (.isub, 1) := by decide +kernel
theorem dX11_boxesOf_118 : decode cX11_boxesOf 118 = .ok (.iaload, 1) := by decide +kernel
theorem dX11_boxesOf_119 : decode cX11_boxesOf 119 = .ok (.iastore, 1) := by decide +kernel
theorem dX11_boxesOf_120 : decode cX11_boxesOf 120 = .ok (.iinc 3 (-1), 3) := by decide +kernel
theorem dX11_boxesOf_123 : decode cX11_boxesOf 123 = .ok (.goto (-84), 3) := by decide +kernel
theorem dX11_boxesOf_126 : decode cX11_boxesOf 126 = .ok (.aload_n 0, 1) := by decide +kernel
theorem dX11_boxesOf_127 : decode cX11_boxesOf 127 = .ok (.getfield 50, 3) := by decide +kernel
theorem dX11_boxesOf_130 : decode cX11_boxesOf 130 = .ok (.iload_n 3, 1) := by decide +kernel
theorem dX11_boxesOf_131 : decode cX11_boxesOf 131 = .ok (.aload_n 0, 1) := by decide +kernel
theorem dX11_boxesOf_132 : decode cX11_boxesOf 132 = .ok (.getfield 7, 3) := by decide +kernel
theorem dX11_boxesOf_135 : decode cX11_boxesOf 135 = .ok (.iload_n 2, 1) := by decide +kernel
theorem dX11_boxesOf_136 : decode cX11_boxesOf 136 = .ok (.iconst 4, 1) := by decide +kernel
theorem dX11_boxesOf_137 : decode cX11_boxesOf 137 = .ok (.invokestatic 94, 3) := by decide +kernel
theorem dX11_boxesOf_140 : decode cX11_boxesOf 140 = .ok (.iaload, 1) := by decide +kernel
theorem dX11_boxesOf_141 : decode cX11_boxesOf 141 = .ok (.iastore, 1) := by decide +kernel
theorem dX11_boxesOf_142 : decode cX11_boxesOf 142 = .ok (.aload_n 0, 1) := by decide +kernel
theorem dX11_boxesOf_143 : decode cX11_boxesOf 143 = .ok (.getfield 53, 3) := by decide +kernel
theorem dX11_boxesOf_146 : decode cX11_boxesOf 146 = .ok (.iload_n 3, 1) := by decide +kernel
theorem dX11_boxesOf_147 : decode cX11_boxesOf 147 = .ok (.aload_n 0, 1) := by decide +kernel
theorem dX11_boxesOf_148 : decode cX11_boxesOf 148 = .ok (.getfield 7, 3) := by decide +kernel
theorem dX11_boxesOf_151 : decode cX11_boxesOf 151 = .ok (.iload_n 2, 1) := by decide +kernel
theorem dX11_boxesOf_152 : decode cX11_boxesOf 152 = .ok (.iconst 5, 1) := by decide +kernel
theorem dX11_boxesOf_153 : decode cX11_boxesOf 153 = .ok (.invokestatic 94, 3) := by decide +kernel
theorem dX11_boxesOf_156 : decode cX11_boxesOf 156 = .ok (.iaload, 1) := by decide +kernel
theorem dX11_boxesOf_157 : decode cX11_boxesOf 157 = .ok (.iastore, 1) := by decide +kernel
theorem dX11_boxesOf_158 : decode cX11_boxesOf 158 = .ok (.aload_n 0, 1) := by decide +kernel
theorem dX11_boxesOf_159 : decode cX11_boxesOf 159 = .ok (.getfield 56, 3) := by decide +kernel
theorem dX11_boxesOf_162 : decode cX11_boxesOf 162 = .ok (.iload_n 3, 1) := by decide +kernel
theorem dX11_boxesOf_163 : decode cX11_boxesOf 163 = .ok (.aload_n 0, 1) := by decide +kernel
theorem dX11_boxesOf_164 : decode cX11_boxesOf 164 = .ok (.iload_n 2, 1) := by decide +kernel
theorem dX11_boxesOf_165 : decode cX11_boxesOf 165 = .ok (.aload_n 0, 1) := by decide +kernel
theorem dX11_boxesOf_166 : decode cX11_boxesOf 166 = .ok (.getfield 7, 3) := by decide +kernel
theorem dX11_boxesOf_169 : decode cX11_boxesOf 169 = .ok (.iload_n 2, 1) := by decide +kernel
theorem dX11_boxesOf_170 : decode cX11_boxesOf 170 = .ok (.bipush 6, 2) := by decide +kernel
theorem dX11_boxesOf_172 : decode cX11_boxesOf 172 = .ok (.invokestatic 94, 3) := by decide +kernel
theorem dX11_boxesOf_175 : decode cX11_boxesOf 175 = .ok (.iaload, 1) := by decide +kernel
theorem dX11_boxesOf_176 : decode cX11_boxesOf 176 = .ok (.invokevirtual 188, 3) := by decide +kernel
theorem dX11_boxesOf_179 : decode cX11_boxesOf 179 = .ok (.iastore, 1) := by decide +kernel
theorem dX11_boxesOf_180 : decode cX11_boxesOf 180 = .ok (.aload_n 0, 1) := by decide +kernel
theorem dX11_boxesOf_181 : decode cX11_boxesOf 181 = .ok (.getfield 59, 3) := by decide +kernel
theorem dX11_boxesOf_184 : decode cX11_boxesOf 184 = .ok (.iload_n 3, 1) := by decide +kernel
theorem dX11_boxesOf_185 : decode cX11_boxesOf 185 = .ok (.aload_n 0, 1) := by decide +kernel
theorem dX11_boxesOf_186 : decode cX11_boxesOf 186 = .ok (.iload_n 2, 1) := by decide +kernel
theorem dX11_boxesOf_187 : decode cX11_boxesOf 187 = .ok (.aload_n 0, 1) := by decide +kernel
theorem dX11_boxesOf_188 : decode cX11_boxesOf 188 = .ok (.getfield 7, 3) := by decide +kernel
theorem dX11_boxesOf_191 : decode cX11_boxesOf 191 = .ok (.iload_n 2, 1) := by decide +kernel
theorem dX11_boxesOf_192 : decode cX11_boxesOf 192 = .ok (.bipush 6, 2) := by decide +kernel
theorem dX11_boxesOf_194 : decode cX11_boxesOf 194 = .ok (.invokestatic 94, 3) := by decide +kernel
theorem dX11_boxesOf_197 : decode cX11_boxesOf 197 = .ok (.iaload, 1) := by decide +kernel
theorem dX11_boxesOf_198 : decode cX11_boxesOf 198 = .ok (.invokevirtual 191, 3) := by decide +kernel
theorem dX11_boxesOf_201 : decode cX11_boxesOf 201 = .ok (.iastore, 1) := by decide +kernel
theorem dX11_boxesOf_202 : decode cX11_boxesOf 202 = .ok (.aload_n 0, 1) := by decide +kernel
theorem dX11_boxesOf_203 : decode cX11_boxesOf 203 = .ok (.dup, 1) := by decide +kernel
theorem dX11_boxesOf_204 : decode cX11_boxesOf 204 = .ok (.getfield 185, 3) := by decide +kernel
theorem dX11_boxesOf_207 : decode cX11_boxesOf 207 = .ok (.iconst 1, 1) := by decide +kernel
theorem dX11_boxesOf_208 : decode cX11_boxesOf 208 = .ok (.iadd, 1) := by decide +kernel
theorem dX11_boxesOf_209 : decode cX11_boxesOf 209 = .ok (.putfield 185, 3) := by decide +kernel
theorem dX11_boxesOf_212 : decode cX11_boxesOf 212 = .ok (.iinc 2 1, 3) := by decide +kernel
theorem dX11_boxesOf_215 : decode cX11_boxesOf 215 = .ok (.goto (-208), 3) := by decide +kernel
theorem dX11_boxesOf_218 : decode cX11_boxesOf 218 = .ok (.return_, 1) := by decide +kernel
theorem dX11_isHeld_0 : decode cX11_isHeld 0 = .ok (.iconst 0, 1) := by decide +kernel
theorem dX11_isHeld_1 : decode cX11_isHeld 1 = .ok (.istore 4, 2) := by decide +kernel
theorem dX11_isHeld_3 : decode cX11_isHeld 3 = .ok (.iconst 0, 1) := by decide +kernel
theorem dX11_isHeld_4 : decode cX11_isHeld 4 = .ok (.istore 5, 2) := by decide +kernel
theorem dX11_isHeld_6 : decode cX11_isHeld 6 = .ok (.iload 5, 2) := by decide +kernel
theorem dX11_isHeld_8 : decode cX11_isHeld 8 = .ok (.aload_n 0, 1) := by decide +kernel
theorem dX11_isHeld_9 : decode cX11_isHeld 9 = .ok (.getfield 185, 3) := by decide +kernel
theorem dX11_isHeld_12 : decode cX11_isHeld 12 = .ok (.if_icmp .ge 82, 3) := by decide +kernel
theorem dX11_isHeld_15 : decode cX11_isHeld 15 = .ok (.iload 4, 2) := by decide +kernel
theorem dX11_isHeld_17 : decode cX11_isHeld 17 = .ok (.ifCond .ne 77, 3) := by decide +kernel
theorem dX11_isHeld_20 : decode cX11_isHeld 20 = .ok (.iload_n 1, 1) := by decide +kernel
theorem dX11_isHeld_21 : decode cX11_isHeld 21 = .ok (.aload_n 0, 1) := by decide +kernel
theorem dX11_isHeld_22 : decode cX11_isHeld 22 = .ok (.getfield 50, 3) := by decide +kernel
theorem dX11_isHeld_25 : decode cX11_isHeld 25 = .ok (.iload 5, 2) := by decide +kernel
theorem dX11_isHeld_27 : decode cX11_isHeld 27 = .ok (.iaload, 1) := by decide +kernel
theorem dX11_isHeld_28 : decode cX11_isHeld 28 = .ok (.aload_n 0, 1) := by decide +kernel
theorem dX11_isHeld_29 : decode cX11_isHeld 29 = .ok (.getfield 50, 3) := by decide +kernel
theorem dX11_isHeld_32 : decode cX11_isHeld 32 = .ok (.iload 5, 2) := by decide +kernel
theorem dX11_isHeld_34 : decode cX11_isHeld 34 = .ok (.iaload, 1) := by decide +kernel
theorem dX11_isHeld_35 : decode cX11_isHeld 35 = .ok (.aload_n 0, 1) := by decide +kernel
theorem dX11_isHeld_36 : decode cX11_isHeld 36 = .ok (.getfield 56, 3) := by decide +kernel
theorem dX11_isHeld_39 : decode cX11_isHeld 39 = .ok (.iload 5, 2) := by decide +kernel
theorem dX11_isHeld_41 : decode cX11_isHeld 41 = .ok (.iaload, 1) := by decide +kernel
theorem dX11_isHeld_42 : decode cX11_isHeld 42 = .ok (.iadd, 1) := by decide +kernel
theorem dX11_isHeld_43 : decode cX11_isHeld 43 = .ok (.iconst 1, 1) := by decide +kernel
theorem dX11_isHeld_44 : decode cX11_isHeld 44 = .ok (.isub, 1) := by decide +kernel
theorem dX11_isHeld_45 : decode cX11_isHeld 45 = .ok (.invokestatic 86, 3) := by decide +kernel
theorem dX11_isHeld_48 : decode cX11_isHeld 48 = .ok (.ifCond .eq 37, 3) := by decide +kernel
theorem dX11_isHeld_51 : decode cX11_isHeld 51 = .ok (.aload_n 0, 1) := by decide +kernel
theorem dX11_isHeld_52 : decode cX11_isHeld 52 = .ok (.getfield 53, 3) := by decide +kernel
theorem dX11_isHeld_55 : decode cX11_isHeld 55 = .ok (.iload 5, 2) := by decide +kernel
theorem dX11_isHeld_57 : decode cX11_isHeld 57 = .ok (.iaload, 1) := by decide +kernel
theorem dX11_isHeld_58 : decode cX11_isHeld 58 = .ok (.iload_n 3, 1) := by decide +kernel
theorem dX11_isHeld_59 : decode cX11_isHeld 59 = .ok (.if_icmp .ge 26, 3) := by decide +kernel
theorem dX11_isHeld_62 : decode cX11_isHeld 62 = .ok (.aload_n 0, 1) := by decide +kernel
theorem dX11_isHeld_63 : decode cX11_isHeld 63 = .ok (.getfield 53, 3) := by decide +kernel
theorem dX11_isHeld_66 : decode cX11_isHeld 66 = .ok (.iload 5, 2) := by decide +kernel
theorem dX11_isHeld_68 : decode cX11_isHeld 68 = .ok (.iaload, 1) := by decide +kernel
theorem dX11_isHeld_69 : decode cX11_isHeld 69 = .ok (.aload_n 0, 1) := by decide +kernel
theorem dX11_isHeld_70 : decode cX11_isHeld 70 = .ok (.getfield 59, 3) := by decide +kernel
theorem dX11_isHeld_73 : decode cX11_isHeld 73 = .ok (.iload 5, 2) := by decide +kernel
theorem dX11_isHeld_75 : decode cX11_isHeld 75 = .ok (.iaload, 1) := by decide +kernel
theorem dX11_isHeld_76 : decode cX11_isHeld 76 = .ok (.iadd, 1) := by decide +kernel
theorem dX11_isHeld_77 : decode cX11_isHeld 77 = .ok (.iload_n 2, 1) := by decide +kernel
theorem dX11_isHeld_78 : decode cX11_isHeld 78 = .ok (.if_icmp .le 7, 3) := by decide +kernel
theorem dX11_isHeld_81 : decode cX11_isHeld 81 = .ok (.iconst 1, 1) := by decide +kernel
theorem dX11_isHeld_82 : decode cX11_isHeld 82 = .ok (.goto 4, 3) := by decide +kernel
theorem dX11_isHeld_85 : decode cX11_isHeld 85 = .ok (.iconst 0, 1) := by decide +kernel
theorem dX11_isHeld_86 : decode cX11_isHeld 86 = .ok (.istore 4, 2) := by decide +kernel
theorem dX11_isHeld_88 : decode cX11_isHeld 88 = .ok (.iinc 5 1, 3) := by decide +kernel
theorem dX11_isHeld_91 : decode cX11_isHeld 91 = .ok (.goto (-85), 3) := by decide +kernel
theorem dX11_isHeld_94 : decode cX11_isHeld 94 = .ok (.iload 4, 2) := by decide +kernel
theorem dX11_isHeld_96 : decode cX11_isHeld 96 = .ok (.ireturn, 1) := by decide +kernel
theorem dX11_offers_0 : decode cX11_offers 0 = .ok (.iload_n 3, 1) := by decide +kernel
theorem dX11_offers_1 : decode cX11_offers 1 = .ok (.iload 4, 2) := by decide +kernel
theorem dX11_offers_3 : decode cX11_offers 3 = .ok (.if_icmp .ge 39, 3) := by decide +kernel
theorem dX11_offers_6 : decode cX11_offers 6 = .ok (.iload_n 1, 1) := by decide +kernel
theorem dX11_offers_7 : decode cX11_offers 7 = .ok (.ifCond .le 16, 3) := by decide +kernel
theorem dX11_offers_10 : decode cX11_offers 10 = .ok (.aload_n 0, 1) := by decide +kernel
theorem dX11_offers_11 : decode cX11_offers 11 = .ok (.iload_n 1, 1) := by decide +kernel
theorem dX11_offers_12 : decode cX11_offers 12 = .ok (.iconst 1, 1) := by decide +kernel
theorem dX11_offers_13 : decode cX11_offers 13 = .ok (.isub, 1) := by decide +kernel
theorem dX11_offers_14 : decode cX11_offers 14 = .ok (.iload_n 3, 1) := by decide +kernel
theorem dX11_offers_15 : decode cX11_offers 15 = .ok (.iload 4, 2) := by decide +kernel
theorem dX11_offers_17 : decode cX11_offers 17 = .ok (.invokevirtual 194, 3) := by decide +kernel
theorem dX11_offers_20 : decode cX11_offers 20 = .ok (.ifCond .eq 22, 3) := by decide +kernel
theorem dX11_offers_23 : decode cX11_offers 23 = .ok (.iload_n 2, 1) := by decide +kernel
theorem dX11_offers_24 : decode cX11_offers 24 = .ok (.aload_n 0, 1) := by decide +kernel
theorem dX11_offers_25 : decode cX11_offers 25 = .ok (.invokevirtual 197, 3) := by decide +kernel
theorem dX11_offers_28 : decode cX11_offers 28 = .ok (.if_icmp .ge 15, 3) := by decide +kernel
theorem dX11_offers_31 : decode cX11_offers 31 = .ok (.aload_n 0, 1) := by decide +kernel
theorem dX11_offers_32 : decode cX11_offers 32 = .ok (.iload_n 2, 1) := by decide +kernel
theorem dX11_offers_33 : decode cX11_offers 33 = .ok (.iload_n 3, 1) := by decide +kernel
theorem dX11_offers_34 : decode cX11_offers 34 = .ok (.iload 4, 2) := by decide +kernel
theorem dX11_offers_36 : decode cX11_offers 36 = .ok (.invokevirtual 194, 3) := by decide +kernel
theorem dX11_offers_39 : decode cX11_offers 39 = .ok (.ifCond .ne 4, 3) := by decide +kernel
theorem dX11_offers_42 : decode cX11_offers 42 = .ok (.return_, 1) := by decide +kernel
theorem dX11_offers_43 : decode cX11_offers 43 = .ok (.aload_n 0, 1) := by decide +kernel
theorem dX11_offers_44 : decode cX11_offers 44 = .ok (.getfield 200, 3) := by decide +kernel
theorem dX11_offers_47 : decode cX11_offers 47 = .ok (.istore 5, 2) := by decide +kernel
theorem dX11_offers_49 : decode cX11_offers 49 = .ok (.iload 5, 2) := by decide +kernel
theorem dX11_offers_51 : decode cX11_offers 51 = .ok (.ifCond .le 89, 3) := by decide +kernel
theorem dX11_offers_54 : decode cX11_offers 54 = .ok (.aload_n 0, 1) := by decide +kernel
theorem dX11_offers_55 : decode cX11_offers 55 = .ok (.iload 5, 2) := by decide +kernel
theorem dX11_offers_57 : decode cX11_offers 57 = .ok (.iconst 1, 1) := by decide +kernel
theorem dX11_offers_58 : decode cX11_offers 58 = .ok (.isub, 1) := by decide +kernel
theorem dX11_offers_59 : decode cX11_offers 59 = .ok (.iload_n 1, 1) := by decide +kernel
theorem dX11_offers_60 : decode cX11_offers 60 = .ok (.iload_n 3, 1) := by decide +kernel
theorem dX11_offers_61 : decode cX11_offers 61 = .ok (.iload_n 2, 1) := by decide +kernel
theorem dX11_offers_62 : decode cX11_offers 62 = .ok (.iload_n 1, 1) := by decide +kernel
theorem dX11_offers_63 : decode cX11_offers 63 = .ok (.isub, 1) := by decide +kernel
theorem dX11_offers_64 : decode cX11_offers 64 = .ok (.invokevirtual 203, 3) := by decide +kernel
theorem dX11_offers_67 : decode cX11_offers 67 = .ok (.ifCond .eq 73, 3) := by decide +kernel
theorem dX11_offers_70 : decode cX11_offers 70 = .ok (.aload_n 0, 1) := by decide +kernel
theorem dX11_offers_71 : decode cX11_offers 71 = .ok (.getfield 62, 3) := by decide +kernel
theorem dX11_offers_74 : decode cX11_offers 74 = .ok (.iload 5, 2) := by decide +kernel
theorem dX11_offers_76 : decode cX11_offers 76 = .ok (.aload_n 0, 1) := by decide +kernel
theorem dX11_offers_77 : decode cX11_offers 77 = .ok (.getfield 62, 3) := by decide +kernel
theorem dX11_offers_80 : decode cX11_offers 80 = .ok (.iload 5, 2) := by decide +kernel
theorem dX11_offers_82 : decode cX11_offers 82 = .ok (.iconst 1, 1) := by decide +kernel
theorem dX11_offers_83 : decode cX11_offers 83 = .ok (.isub, 1) := by decide +kernel
theorem dX11_offers_84 : decode cX11_offers 84 = .ok (.iaload, 1) := by decide +kernel
theorem dX11_offers_85 : decode cX11_offers 85 = .ok (.iastore, 1) := by decide +kernel
theorem dX11_offers_86 : decode cX11_offers 86 = .ok (.aload_n 0, 1) := by decide +kernel
theorem dX11_offers_87 : decode cX11_offers 87 = .ok (.getfield 65, 3) := by decide +kernel
theorem dX11_offers_90 : decode cX11_offers 90 = .ok (.iload 5, 2) := by decide +kernel
theorem dX11_offers_92 : decode cX11_offers 92 = .ok (.aload_n 0, 1) := by decide +kernel
theorem dX11_offers_93 : decode cX11_offers 93 = .ok (.getfield 65, 3) := by decide +kernel
theorem dX11_offers_96 : decode cX11_offers 96 = .ok (.iload 5, 2) := by decide +kernel
theorem dX11_offers_98 : decode cX11_offers 98 = .ok (.iconst 1, 1) := by decide +kernel
theorem dX11_offers_99 : decode cX11_offers 99 = .ok (.isub, 1) := by decide +kernel
theorem dX11_offers_100 : decode cX11_offers 100 = .ok (.iaload, 1) := by decide +kernel
theorem dX11_offers_101 : decode cX11_offers 101 = .ok (.iastore, 1) := by decide +kernel
theorem dX11_offers_102 : decode cX11_offers 102 = .ok (.aload_n 0, 1) := by decide +kernel
theorem dX11_offers_103 : decode cX11_offers 103 = .ok (.getfield 68, 3) := by decide +kernel
theorem dX11_offers_106 : decode cX11_offers 106 = .ok (.iload 5, 2) := by decide +kernel
theorem dX11_offers_108 : decode cX11_offers 108 = .ok (.aload_n 0, 1) := by decide +kernel
theorem dX11_offers_109 : decode cX11_offers 109 = .ok (.getfield 68, 3) := by decide +kernel
theorem dX11_offers_112 : decode cX11_offers 112 = .ok (.iload 5, 2) := by decide +kernel
theorem dX11_offers_114 : decode cX11_offers 114 = .ok (.iconst 1, 1) := by decide +kernel
theorem dX11_offers_115 : decode cX11_offers 115 = .ok (.isub, 1) := by decide +kernel
theorem dX11_offers_116 : decode cX11_offers 116 = .ok (.iaload, 1) := by decide +kernel
theorem dX11_offers_117 : decode cX11_offers 117 = .ok (.iastore, 1) := by decide +kernel
theorem dX11_offers_118 : decode cX11_offers 118 = .ok (.aload_n 0, 1) := by decide +kernel
theorem dX11_offers_119 : decode cX11_offers 119 = .ok (.getfield 71, 3) := by decide +kernel
theorem dX11_offers_122 : decode cX11_offers 122 = .ok (.iload 5, 2) := by decide +kernel
theorem dX11_offers_124 : decode cX11_offers 124 = .ok (.aload_n 0, 1) := by decide +kernel
theorem dX11_offers_125 : decode cX11_offers 125 = .ok (.getfield 71, 3) := by decide +kernel
theorem dX11_offers_128 : decode cX11_offers 128 = .ok (.iload 5, 2) := by decide +kernel
theorem dX11_offers_130 : decode cX11_offers 130 = .ok (.iconst 1, 1) := by decide +kernel
theorem dX11_offers_131 : decode cX11_offers 131 = .ok (.isub, 1) := by decide +kernel
theorem dX11_offers_132 : decode cX11_offers 132 = .ok (.iaload, 1) := by decide +kernel
theorem dX11_offers_133 : decode cX11_offers 133 = .ok (.iastore, 1) := by decide +kernel
theorem dX11_offers_134 : decode cX11_offers 134 = .ok (.iinc 5 (-1), 3) := by decide +kernel
theorem dX11_offers_137 : decode cX11_offers 137 = .ok (.goto (-88), 3) := by decide +kernel
theorem dX11_offers_140 : decode cX11_offers 140 = .ok (.aload_n 0, 1) := by decide +kernel
theorem dX11_offers_141 : decode cX11_offers 141 = .ok (.getfield 62, 3) := by decide +kernel
theorem dX11_offers_144 : decode cX11_offers 144 = .ok (.iload 5, 2) := by decide +kernel
theorem dX11_offers_146 : decode cX11_offers 146 = .ok (.iload_n 1, 1) := by decide +kernel
theorem dX11_offers_147 : decode cX11_offers 147 = .ok (.iastore, 1) := by decide +kernel
theorem dX11_offers_148 : decode cX11_offers 148 = .ok (.aload_n 0, 1) := by decide +kernel
theorem dX11_offers_149 : decode cX11_offers 149 = .ok (.getfield 65, 3) := by decide +kernel
theorem dX11_offers_152 : decode cX11_offers 152 = .ok (.iload 5, 2) := by decide +kernel
theorem dX11_offers_154 : decode cX11_offers 154 = .ok (.iload_n 3, 1) := by decide +kernel
theorem dX11_offers_155 : decode cX11_offers 155 = .ok (.iastore, 1) := by decide +kernel
theorem dX11_offers_156 : decode cX11_offers 156 = .ok (.aload_n 0, 1) := by decide +kernel
theorem dX11_offers_157 : decode cX11_offers 157 = .ok (.getfield 68, 3) := by decide +kernel
theorem dX11_offers_160 : decode cX11_offers 160 = .ok (.iload 5, 2) := by decide +kernel
theorem dX11_offers_162 : decode cX11_offers 162 = .ok (.iload_n 2, 1) := by decide +kernel
theorem dX11_offers_163 : decode cX11_offers 163 = .ok (.iload_n 1, 1) := by decide +kernel
theorem dX11_offers_164 : decode cX11_offers 164 = .ok (.isub, 1) := by decide +kernel
theorem dX11_offers_165 : decode cX11_offers 165 = .ok (.iastore, 1) := by decide +kernel
theorem dX11_offers_166 : decode cX11_offers 166 = .ok (.aload_n 0, 1) := by decide +kernel
theorem dX11_offers_167 : decode cX11_offers 167 = .ok (.getfield 71, 3) := by decide +kernel
theorem dX11_offers_170 : decode cX11_offers 170 = .ok (.iload 5, 2) := by decide +kernel
theorem dX11_offers_172 : decode cX11_offers 172 = .ok (.iload 4, 2) := by decide +kernel
theorem dX11_offers_174 : decode cX11_offers 174 = .ok (.iload_n 3, 1) := by decide +kernel
theorem dX11_offers_175 : decode cX11_offers 175 = .ok (.isub, 1) := by decide +kernel
theorem dX11_offers_176 : decode cX11_offers 176 = .ok (.iastore, 1) := by decide +kernel
theorem dX11_offers_177 : decode cX11_offers 177 = .ok (.aload_n 0, 1) := by decide +kernel
theorem dX11_offers_178 : decode cX11_offers 178 = .ok (.dup, 1) := by decide +kernel
theorem dX11_offers_179 : decode cX11_offers 179 = .ok (.getfield 200, 3) := by decide +kernel
theorem dX11_offers_182 : decode cX11_offers 182 = .ok (.iconst 1, 1) := by decide +kernel
theorem dX11_offers_183 : decode cX11_offers 183 = .ok (.iadd, 1) := by decide +kernel
theorem dX11_offers_184 : decode cX11_offers 184 = .ok (.putfield 200, 3) := by decide +kernel
theorem dX11_offers_187 : decode cX11_offers 187 = .ok (.return_, 1) := by decide +kernel
theorem dX11_isBehind_0 : decode cX11_isBehind 0 = .ok (.aload_n 0, 1) := by decide +kernel
theorem dX11_isBehind_1 : decode cX11_isBehind 1 = .ok (.getfield 65, 3) := by decide +kernel
theorem dX11_isBehind_4 : decode cX11_isBehind 4 = .ok (.iload_n 1, 1) := by decide +kernel
theorem dX11_isBehind_5 : decode cX11_isBehind 5 = .ok (.iaload, 1) := by decide +kernel
theorem dX11_isBehind_6 : decode cX11_isBehind 6 = .ok (.iload_n 3, 1) := by decide +kernel
theorem dX11_isBehind_7 : decode cX11_isBehind 7 = .ok (.if_icmp .gt 44, 3) := by decide +kernel
theorem dX11_isBehind_10 : decode cX11_isBehind 10 = .ok (.aload_n 0, 1) := by decide +kernel
theorem dX11_isBehind_11 : decode cX11_isBehind 11 = .ok (.getfield 65, 3) := by decide +kernel
theorem dX11_isBehind_14 : decode cX11_isBehind 14 = .ok (.iload_n 1, 1) := by decide +kernel
theorem dX11_isBehind_15 : decode cX11_isBehind 15 = .ok (.iaload, 1) := by decide +kernel
theorem dX11_isBehind_16 : decode cX11_isBehind 16 = .ok (.iload_n 3, 1) := by decide +kernel
theorem dX11_isBehind_17 : decode cX11_isBehind 17 = .ok (.if_icmp .ne 38, 3) := by decide +kernel
theorem dX11_isBehind_20 : decode cX11_isBehind 20 = .ok (.aload_n 0, 1) := by decide +kernel
theorem dX11_isBehind_21 : decode cX11_isBehind 21 = .ok (.getfield 62, 3) := by decide +kernel
theorem dX11_isBehind_24 : decode cX11_isBehind 24 = .ok (.iload_n 1, 1) := by decide +kernel
theorem dX11_isBehind_25 : decode cX11_isBehind 25 = .ok (.iaload, 1) := by decide +kernel
theorem dX11_isBehind_26 : decode cX11_isBehind 26 = .ok (.iload_n 2, 1) := by decide +kernel
theorem dX11_isBehind_27 : decode cX11_isBehind 27 = .ok (.if_icmp .gt 24, 3) := by decide +kernel
theorem dX11_isBehind_30 : decode cX11_isBehind 30 = .ok (.aload_n 0, 1) := by decide +kernel
theorem dX11_isBehind_31 : decode cX11_isBehind 31 = .ok (.getfield 62, 3) := by decide +kernel
theorem dX11_isBehind_34 : decode cX11_isBehind 34 = .ok (.iload_n 1, 1) := by decide +kernel
theorem dX11_isBehind_35 : decode cX11_isBehind 35 = .ok (.iaload, 1) := by decide +kernel
theorem dX11_isBehind_36 : decode cX11_isBehind 36 = .ok (.iload_n 2, 1) := by decide +kernel
theorem dX11_isBehind_37 : decode cX11_isBehind 37 = .ok (.if_icmp .ne 18, 3) := by decide +kernel
theorem dX11_isBehind_40 : decode cX11_isBehind 40 = .ok (.aload_n 0, 1) := by decide +kernel
theorem dX11_isBehind_41 : decode cX11_isBehind 41 = .ok (.getfield 68, 3) := by decide +kernel
theorem dX11_isBehind_44 : decode cX11_isBehind 44 = .ok (.iload_n 1, 1) := by decide +kernel
theorem dX11_isBehind_45 : decode cX11_isBehind 45 = .ok (.iaload, 1) := by decide +kernel
theorem dX11_isBehind_46 : decode cX11_isBehind 46 = .ok (.iload 4, 2) := by decide +kernel
theorem dX11_isBehind_48 : decode cX11_isBehind 48 = .ok (.if_icmp .le 7, 3) := by decide +kernel
theorem dX11_isBehind_51 : decode cX11_isBehind 51 = .ok (.iconst 1, 1) := by decide +kernel
theorem dX11_isBehind_52 : decode cX11_isBehind 52 = .ok (.goto 4, 3) := by decide +kernel
theorem dX11_isBehind_55 : decode cX11_isBehind 55 = .ok (.iconst 0, 1) := by decide +kernel
theorem dX11_isBehind_56 : decode cX11_isBehind 56 = .ok (.ireturn, 1) := by decide +kernel
theorem dX11_between_0 : decode cX11_between 0 = .ok (.iconst 0, 1) := by decide +kernel
theorem dX11_between_1 : decode cX11_between 1 = .ok (.istore_n 3, 1) := by decide +kernel
theorem dX11_between_2 : decode cX11_between 2 = .ok (.iconst 0, 1) := by decide +kernel
theorem dX11_between_3 : decode cX11_between 3 = .ok (.istore 4, 2) := by decide +kernel
theorem dX11_between_5 : decode cX11_between 5 = .ok (.iload 4, 2) := by decide +kernel
theorem dX11_between_7 : decode cX11_between 7 = .ok (.aload_n 0, 1) := by decide +kernel
theorem dX11_between_8 : decode cX11_between 8 = .ok (.getfield 185, 3) := by decide +kernel
theorem dX11_between_11 : decode cX11_between 11 = .ok (.if_icmp .ge 92, 3) := by decide +kernel
theorem dX11_between_14 : decode cX11_between 14 = .ok (.aload_n 0, 1) := by decide +kernel
theorem dX11_between_15 : decode cX11_between 15 = .ok (.getfield 50, 3) := by decide +kernel
theorem dX11_between_18 : decode cX11_between 18 = .ok (.iload 4, 2) := by decide +kernel
theorem dX11_between_20 : decode cX11_between 20 = .ok (.iaload, 1) := by decide +kernel
theorem dX11_between_21 : decode cX11_between 21 = .ok (.iload_n 2, 1) := by decide +kernel
theorem dX11_between_22 : decode cX11_between 22 = .ok (.if_icmp .ge 75, 3) := by decide +kernel
theorem dX11_between_25 : decode cX11_between 25 = .ok (.aload_n 0, 1) := by decide +kernel
theorem dX11_between_26 : decode cX11_between 26 = .ok (.getfield 50, 3) := by decide +kernel
theorem dX11_between_29 : decode cX11_between 29 = .ok (.iload 4, 2) := by decide +kernel
theorem dX11_between_31 : decode cX11_between 31 = .ok (.iaload, 1) := by decide +kernel
theorem dX11_between_32 : decode cX11_between 32 = .ok (.aload_n 0, 1) := by decide +kernel
theorem dX11_between_33 : decode cX11_between 33 = .ok (.getfield 56, 3) := by decide +kernel
theorem dX11_between_36 : decode cX11_between 36 = .ok (.iload 4, 2) := by decide +kernel
theorem dX11_between_38 : decode cX11_between 38 = .ok (.iaload, 1) := by decide +kernel
theorem dX11_between_39 : decode cX11_between 39 = .ok (.iadd, 1) := by decide +kernel
theorem dX11_between_40 : decode cX11_between 40 = .ok (.iload_n 1, 1) := by decide +kernel
theorem dX11_between_41 : decode cX11_between 41 = .ok (.if_icmp .le 56, 3) := by decide +kernel
theorem dX11_between_44 : decode cX11_between 44 = .ok (.aload_n 0, 1) := by decide +kernel
theorem dX11_between_45 : decode cX11_between 45 = .ok (.iload_n 1, 1) := by decide +kernel
theorem dX11_between_46 : decode cX11_between 46 = .ok (.iload_n 2, 1) := by decide +kernel
theorem dX11_between_47 : decode cX11_between 47 = .ok (.iload_n 3, 1) := by decide +kernel
theorem dX11_between_48 : decode cX11_between 48 = .ok (.aload_n 0, 1) := by decide +kernel
theorem dX11_between_49 : decode cX11_between 49 = .ok (.getfield 53, 3) := by decide +kernel
theorem dX11_between_52 : decode cX11_between 52 = .ok (.iload 4, 2) := by decide +kernel
theorem dX11_between_54 : decode cX11_between 54 = .ok (.iaload, 1) := by decide +kernel
theorem dX11_between_55 : decode cX11_between 55 = .ok (.invokevirtual 206, 3) := by decide +kernel
theorem dX11_between_58 : decode cX11_between 58 = .ok (.aload_n 0, 1) := by decide +kernel
theorem dX11_between_59 : decode cX11_between 59 = .ok (.getfield 53, 3) := by decide +kernel
theorem dX11_between_62 : decode cX11_between 62 = .ok (.iload 4, 2) := by decide +kernel
theorem dX11_between_64 : decode cX11_between 64 = .ok (.iaload, 1) := by decide +kernel
theorem dX11_between_65 : decode cX11_between 65 = .ok (.aload_n 0, 1) := by decide +kernel
theorem dX11_between_66 : decode cX11_between 66 = .ok (.getfield 59, 3) := by decide +kernel
theorem dX11_between_69 : decode cX11_between 69 = .ok (.iload 4, 2) := by decide +kernel
theorem dX11_between_71 : decode cX11_between 71 = .ok (.iaload, 1) := by decide +kernel
theorem dX11_between_72 : decode cX11_between 72 = .ok (.iadd, 1) := by decide +kernel
theorem dX11_between_73 : decode cX11_between 73 = .ok (.iload_n 3, 1) := by decide +kernel
theorem dX11_between_74 : decode cX11_between 74 = .ok (.if_icmp .le 21, 3) := by decide +kernel
theorem dX11_between_77 : decode cX11_between 77 = .ok (.aload_n 0, 1) := by decide +kernel
theorem dX11_between_78 : decode cX11_between 78 = .ok (.getfield 53, 3) := by decide +kernel
theorem dX11_between_81 : decode cX11_between 81 = .ok (.iload 4, 2) := by decide +kernel
theorem dX11_between_83 : decode cX11_between 83 = .ok (.iaload, 1) := by decide +kernel
theorem dX11_between_84 : decode cX11_between 84 = .ok (.aload_n 0, 1) := by decide +kernel
theorem dX11_between_85 : decode cX11_between 85 = .ok (.getfield 59, 3) := by decide +kernel
theorem dX11_between_88 : decode cX11_between 88 = .ok (.iload 4, 2) := by decide +kernel
theorem dX11_between_90 : decode cX11_between 90 = .ok (.iaload, 1) := by decide +kernel
theorem dX11_between_91 : decode cX11_between 91 = .ok (.iadd, 1) := by decide +kernel
theorem dX11_between_92 : decode cX11_between 92 = .ok (.goto 4, 3) := by decide +kernel
theorem dX11_between_95 : decode cX11_between 95 = .ok (.iload_n 3, 1) := by decide +kernel
theorem dX11_between_96 : decode cX11_between 96 = .ok (.istore_n 3, 1) := by decide +kernel
theorem dX11_between_97 : decode cX11_between 97 = .ok (.iinc 4 1, 3) := by decide +kernel
theorem dX11_between_100 : decode cX11_between 100 = .ok (.goto (-95), 3) := by decide +kernel
theorem dX11_between_103 : decode cX11_between 103 = .ok (.aload_n 0, 1) := by decide +kernel
theorem dX11_between_104 : decode cX11_between 104 = .ok (.iload_n 1, 1) := by decide +kernel
theorem dX11_between_105 : decode cX11_between 105 = .ok (.iload_n 2, 1) := by decide +kernel
theorem dX11_between_106 : decode cX11_between 106 = .ok (.iload_n 3, 1) := by decide +kernel
theorem dX11_between_107 : decode cX11_between 107 = .ok (.aload_n 0, 1) := by decide +kernel
theorem dX11_between_108 : decode cX11_between 108 = .ok (.invokevirtual 210, 3) := by decide +kernel
theorem dX11_between_111 : decode cX11_between 111 = .ok (.invokevirtual 206, 3) := by decide +kernel
theorem dX11_between_114 : decode cX11_between 114 = .ok (.return_, 1) := by decide +kernel
theorem dX11_freesOf_0 : decode cX11_freesOf 0 = .ok (.aload_n 0, 1) := by decide +kernel
theorem dX11_freesOf_1 : decode cX11_freesOf 1 = .ok (.iconst 0, 1) := by decide +kernel
theorem dX11_freesOf_2 : decode cX11_freesOf 2 = .ok (.putfield 200, 3) := by decide +kernel
theorem dX11_freesOf_5 : decode cX11_freesOf 5 = .ok (.aload_n 0, 1) := by decide +kernel
theorem dX11_freesOf_6 : decode cX11_freesOf 6 = .ok (.iload_n 1, 1) := by decide +kernel
theorem dX11_freesOf_7 : decode cX11_freesOf 7 = .ok (.invokevirtual 213, 3) := by decide +kernel
theorem dX11_freesOf_10 : decode cX11_freesOf 10 = .ok (.aload_n 0, 1) := by decide +kernel
theorem dX11_freesOf_11 : decode cX11_freesOf 11 = .ok (.invokevirtual 197, 3) := by decide +kernel
theorem dX11_freesOf_14 : decode cX11_freesOf 14 = .ok (.istore_n 2, 1) := by decide +kernel
theorem dX11_freesOf_15 : decode cX11_freesOf 15 = .ok (.iload_n 2, 1) := by decide +kernel
theorem dX11_freesOf_16 : decode cX11_freesOf 16 = .ok (.ifCond .le 10, 3) := by decide +kernel
theorem dX11_freesOf_19 : decode cX11_freesOf 19 = .ok (.aload_n 0, 1) := by decide +kernel
theorem dX11_freesOf_20 : decode cX11_freesOf 20 = .ok (.invokevirtual 210, 3) := by decide +kernel
theorem dX11_freesOf_23 : decode cX11_freesOf 23 = .ok (.ifCond .gt 4, 3) := by decide +kernel
theorem dX11_freesOf_26 : decode cX11_freesOf 26 = .ok (.return_, 1) := by decide +kernel
theorem dX11_freesOf_27 : decode cX11_freesOf 27 = .ok (.iconst 0, 1) := by decide +kernel
theorem dX11_freesOf_28 : decode cX11_freesOf 28 = .ok (.istore_n 3, 1) := by decide +kernel
theorem dX11_freesOf_29 : decode cX11_freesOf 29 = .ok (.iload_n 3, 1) := by decide +kernel
theorem dX11_freesOf_30 : decode cX11_freesOf 30 = .ok (.bipush 40, 2) := by decide +kernel
theorem dX11_freesOf_32 : decode cX11_freesOf 32 = .ok (.if_icmp .ge 40, 3) := by decide +kernel
theorem dX11_freesOf_35 : decode cX11_freesOf 35 = .ok (.aload_n 0, 1) := by decide +kernel
theorem dX11_freesOf_36 : decode cX11_freesOf 36 = .ok (.getfield 74, 3) := by decide +kernel
theorem dX11_freesOf_39 : decode cX11_freesOf 39 = .ok (.iload_n 3, 1) := by decide +kernel
theorem dX11_freesOf_40 : decode cX11_freesOf 40 = .ok (.iload_n 3, 1) := by decide +kernel
theorem dX11_freesOf_41 : decode cX11_freesOf 41 = .ok (.ifCond .ne 7, 3) := by decide +kernel
theorem dX11_freesOf_44 : decode cX11_freesOf 44 = .ok (.iconst 1, 1) := by decide +kernel
theorem dX11_freesOf_45 : decode cX11_freesOf 45 = .ok (.goto 4, 3) := by decide +kernel
theorem dX11_freesOf_48 : decode cX11_freesOf 48 = .ok (.iconst 0, 1) := by decide +kernel
theorem dX11_freesOf_49 : decode cX11_freesOf 49 = .ok (.bastore, 1) := by decide +kernel
theorem dX11_freesOf_50 : decode cX11_freesOf 50 = .ok (.aload_n 0, 1) := by decide +kernel
theorem dX11_freesOf_51 : decode cX11_freesOf 51 = .ok (.getfield 77, 3) := by decide +kernel
theorem dX11_freesOf_54 : decode cX11_freesOf 54 = .ok (.iload_n 3, 1) := by decide +kernel
theorem dX11_freesOf_55 : decode cX11_freesOf 55 = .ok (.iload_n 3, 1) := by decide +kernel
theorem dX11_freesOf_56 : decode cX11_freesOf 56 = .ok (.iload_n 2, 1) := by decide +kernel
theorem dX11_freesOf_57 : decode cX11_freesOf 57 = .ok (.if_icmp .ne 7, 3) := by decide +kernel
theorem dX11_freesOf_60 : decode cX11_freesOf 60 = .ok (.iconst 1, 1) := by decide +kernel
theorem dX11_freesOf_61 : decode cX11_freesOf 61 = .ok (.goto 4, 3) := by decide +kernel
theorem dX11_freesOf_64 : decode cX11_freesOf 64 = .ok (.iconst 0, 1) := by decide +kernel
theorem dX11_freesOf_65 : decode cX11_freesOf 65 = .ok (.bastore, 1) := by decide +kernel
theorem dX11_freesOf_66 : decode cX11_freesOf 66 = .ok (.iinc 3 1, 3) := by decide +kernel
theorem dX11_freesOf_69 : decode cX11_freesOf 69 = .ok (.goto (-40), 3) := by decide +kernel
theorem dX11_freesOf_72 : decode cX11_freesOf 72 = .ok (.iconst 0, 1) := by decide +kernel
theorem dX11_freesOf_73 : decode cX11_freesOf 73 = .ok (.istore_n 3, 1) := by decide +kernel
theorem dX11_freesOf_74 : decode cX11_freesOf 74 = .ok (.iload_n 3, 1) := by decide +kernel
theorem dX11_freesOf_75 : decode cX11_freesOf 75 = .ok (.aload_n 0, 1) := by decide +kernel
theorem dX11_freesOf_76 : decode cX11_freesOf 76 = .ok (.getfield 185, 3) := by decide +kernel
theorem dX11_freesOf_79 : decode cX11_freesOf 79 = .ok (.if_icmp .ge 40, 3) := by decide +kernel
theorem dX11_freesOf_82 : decode cX11_freesOf 82 = .ok (.aload_n 0, 1) := by decide +kernel
theorem dX11_freesOf_83 : decode cX11_freesOf 83 = .ok (.getfield 74, 3) := by decide +kernel
theorem dX11_freesOf_86 : decode cX11_freesOf 86 = .ok (.aload_n 0, 1) := by decide +kernel
theorem dX11_freesOf_87 : decode cX11_freesOf 87 = .ok (.getfield 50, 3) := by decide +kernel
theorem dX11_freesOf_90 : decode cX11_freesOf 90 = .ok (.iload_n 3, 1) := by decide +kernel
theorem dX11_freesOf_91 : decode cX11_freesOf 91 = .ok (.iaload, 1) := by decide +kernel
theorem dX11_freesOf_92 : decode cX11_freesOf 92 = .ok (.aload_n 0, 1) := by decide +kernel
theorem dX11_freesOf_93 : decode cX11_freesOf 93 = .ok (.getfield 56, 3) := by decide +kernel
theorem dX11_freesOf_96 : decode cX11_freesOf 96 = .ok (.iload_n 3, 1) := by decide +kernel
theorem dX11_freesOf_97 : decode cX11_freesOf 97 = .ok (.iaload, 1) := by decide +kernel
theorem dX11_freesOf_98 : decode cX11_freesOf 98 = .ok (.iadd, 1) := by decide +kernel
theorem dX11_freesOf_99 : decode cX11_freesOf 99 = .ok (.iconst 1, 1) := by decide +kernel
theorem dX11_freesOf_100 : decode cX11_freesOf 100 = .ok (.bastore, 1) := by decide +kernel
theorem dX11_freesOf_101 : decode cX11_freesOf 101 = .ok (.aload_n 0, 1) := by decide +kernel
theorem dX11_freesOf_102 : decode cX11_freesOf 102 = .ok (.getfield 77, 3) := by decide +kernel
theorem dX11_freesOf_105 : decode cX11_freesOf 105 = .ok (.aload_n 0, 1) := by decide +kernel
theorem dX11_freesOf_106 : decode cX11_freesOf 106 = .ok (.getfield 50, 3) := by decide +kernel
theorem dX11_freesOf_109 : decode cX11_freesOf 109 = .ok (.iload_n 3, 1) := by decide +kernel
theorem dX11_freesOf_110 : decode cX11_freesOf 110 = .ok (.iaload, 1) := by decide +kernel
theorem dX11_freesOf_111 : decode cX11_freesOf 111 = .ok (.iconst 1, 1) := by decide +kernel
theorem dX11_freesOf_112 : decode cX11_freesOf 112 = .ok (.bastore, 1) := by decide +kernel
theorem dX11_freesOf_113 : decode cX11_freesOf 113 = .ok (.iinc 3 1, 3) := by decide +kernel
theorem dX11_freesOf_116 : decode cX11_freesOf 116 = .ok (.goto (-42), 3) := by decide +kernel
theorem dX11_freesOf_119 : decode cX11_freesOf 119 = .ok (.iconst 0, 1) := by decide +kernel
theorem dX11_freesOf_120 : decode cX11_freesOf 120 = .ok (.istore_n 3, 1) := by decide +kernel
theorem dX11_freesOf_121 : decode cX11_freesOf 121 = .ok (.iload_n 3, 1) := by decide +kernel
theorem dX11_freesOf_122 : decode cX11_freesOf 122 = .ok (.iload_n 2, 1) := by decide +kernel
theorem dX11_freesOf_123 : decode cX11_freesOf 123 = .ok (.if_icmp .ge 52, 3) := by decide +kernel
theorem dX11_freesOf_126 : decode cX11_freesOf 126 = .ok (.iload_n 3, 1) := by decide +kernel
theorem dX11_freesOf_127 : decode cX11_freesOf 127 = .ok (.iconst 1, 1) := by decide +kernel
theorem dX11_freesOf_128 : decode cX11_freesOf 128 = .ok (.iadd, 1) := by decide +kernel
theorem dX11_freesOf_129 : decode cX11_freesOf 129 = .ok (.istore 4, 2) := by decide +kernel
theorem dX11_freesOf_131 : decode cX11_freesOf 131 = .ok (.iload 4, 2) := by decide +kernel
theorem dX11_freesOf_133 : decode cX11_freesOf 133 = .ok (.iload_n 2, 1) := by decide +kernel
theorem dX11_freesOf_134 : decode cX11_freesOf 134 = .ok (.if_icmp .gt 35, 3) := by decide +kernel
theorem dX11_freesOf_137 : decode cX11_freesOf 137 = .ok (.aload_n 0, 1) := by decide +kernel
theorem dX11_freesOf_138 : decode cX11_freesOf 138 = .ok (.getfield 74, 3) := by decide +kernel
theorem dX11_freesOf_141 : decode cX11_freesOf 141 = .ok (.iload_n 3, 1) := by decide +kernel
theorem dX11_freesOf_142 : decode cX11_freesOf 142 = .ok (.baload, 1) := by decide +kernel
theorem dX11_freesOf_143 : decode cX11_freesOf 143 = .ok (.ifCond .eq 26, 3) := by decide +kernel
theorem dX11_freesOf_146 : decode cX11_freesOf 146 = .ok (.aload_n 0, 1) := by decide +kernel
theorem dX11_freesOf_147 : decode cX11_freesOf 147 = .ok (.getfield 77, 3) := by decide +kernel
theorem dX11_freesOf_150 : decode cX11_freesOf 150 = .ok (.iload 4, 2) := by decide +kernel
theorem dX11_freesOf_152 : decode cX11_freesOf 152 = .ok (.baload, 1) := by decide +kernel
theorem dX11_freesOf_153 : decode cX11_freesOf 153 = .ok (.ifCond .eq 10, 3) := by decide +kernel
theorem dX11_freesOf_156 : decode cX11_freesOf 156 = .ok (.aload_n 0, 1) := by decide +kernel
theorem dX11_freesOf_157 : decode cX11_freesOf 157 = .ok (.iload_n 3, 1) := by decide +kernel
theorem dX11_freesOf_158 : decode cX11_freesOf 158 = .ok (.iload 4, 2) := by decide +kernel
theorem dX11_freesOf_160 : decode cX11_freesOf 160 = .ok (.invokevirtual 216, 3) := by decide +kernel
theorem dX11_freesOf_163 : decode cX11_freesOf 163 = .ok (.iinc 4 1, 3) := by decide +kernel
theorem dX11_freesOf_166 : decode cX11_freesOf 166 = .ok (.goto (-35), 3) := by decide +kernel
theorem dX11_freesOf_169 : decode cX11_freesOf 169 = .ok (.iinc 3 1, 3) := by decide +kernel
theorem dX11_freesOf_172 : decode cX11_freesOf 172 = .ok (.goto (-51), 3) := by decide +kernel
theorem dX11_freesOf_175 : decode cX11_freesOf 175 = .ok (.return_, 1) := by decide +kernel
theorem dX11_fits_0 : decode cX11_fits 0 = .ok (.iload_n 2, 1) := by decide +kernel
theorem dX11_fits_1 : decode cX11_fits 1 = .ok (.aload_n 0, 1) := by decide +kernel
theorem dX11_fits_2 : decode cX11_fits 2 = .ok (.getfield 68, 3) := by decide +kernel
theorem dX11_fits_5 : decode cX11_fits 5 = .ok (.iload_n 1, 1) := by decide +kernel
theorem dX11_fits_6 : decode cX11_fits 6 = .ok (.iaload, 1) := by decide +kernel
theorem dX11_fits_7 : decode cX11_fits 7 = .ok (.if_icmp .gt 17, 3) := by decide +kernel
theorem dX11_fits_10 : decode cX11_fits 10 = .ok (.iload_n 3, 1) := by decide +kernel
theorem dX11_fits_11 : decode cX11_fits 11 = .ok (.aload_n 0, 1) := by decide +kernel
theorem dX11_fits_12 : decode cX11_fits 12 = .ok (.getfield 71, 3) := by decide +kernel
theorem dX11_fits_15 : decode cX11_fits 15 = .ok (.iload_n 1, 1) := by decide +kernel
theorem dX11_fits_16 : decode cX11_fits 16 = .ok (.iaload, 1) := by decide +kernel
theorem dX11_fits_17 : decode cX11_fits 17 = .ok (.if_icmp .gt 7, 3) := by decide +kernel
theorem dX11_fits_20 : decode cX11_fits 20 = .ok (.iconst 1, 1) := by decide +kernel
theorem dX11_fits_21 : decode cX11_fits 21 = .ok (.goto 4, 3) := by decide +kernel
theorem dX11_fits_24 : decode cX11_fits 24 = .ok (.iconst 0, 1) := by decide +kernel
theorem dX11_fits_25 : decode cX11_fits 25 = .ok (.ireturn, 1) := by decide +kernel
theorem dX11_values_0 : decode cX11_values 0 = .ok (.aload_n 0, 1) := by decide +kernel
theorem dX11_values_1 : decode cX11_values 1 = .ok (.iload_n 2, 1) := by decide +kernel
theorem dX11_values_2 : decode cX11_values 2 = .ok (.iload_n 3, 1) := by decide +kernel
theorem dX11_values_3 : decode cX11_values 3 = .ok (.invokevirtual 188, 3) := by decide +kernel
theorem dX11_values_6 : decode cX11_values 6 = .ok (.istore 4, 2) := by decide +kernel
theorem dX11_values_8 : decode cX11_values 8 = .ok (.aload_n 0, 1) := by decide +kernel
theorem dX11_values_9 : decode cX11_values 9 = .ok (.iload_n 2, 1) := by decide +kernel
theorem dX11_values_10 : decode cX11_values 10 = .ok (.iload_n 3, 1) := by decide +kernel
theorem dX11_values_11 : decode cX11_values 11 = .ok (.invokevirtual 191, 3) := by decide +kernel
theorem dX11_values_14 : decode cX11_values 14 = .ok (.istore 5, 2) := by decide +kernel
theorem dX11_values_16 : decode cX11_values 16 = .ok (.aload_n 0, 1) := by decide +kernel
theorem dX11_values_17 : decode cX11_values 17 = .ok (.iload_n 1, 1) := by decide +kernel
theorem dX11_values_18 : decode cX11_values 18 = .ok (.iload 4, 2) := by decide +kernel
theorem dX11_values_20 : decode cX11_values 20 = .ok (.iload 5, 2) := by decide +kernel
theorem dX11_values_22 : decode cX11_values 22 = .ok (.invokevirtual 219, 3) := by decide +kernel
theorem dX11_values_25 : decode cX11_values 25 = .ok (.ifCond .ne 4, 3) := by decide +kernel
theorem dX11_values_28 : decode cX11_values 28 = .ok (.return_, 1) := by decide +kernel
theorem dX11_values_29 : decode cX11_values 29 = .ok (.aload_n 0, 1) := by decide +kernel
theorem dX11_values_30 : decode cX11_values 30 = .ok (.getfield 68, 3) := by decide +kernel
theorem dX11_values_33 : decode cX11_values 33 = .ok (.iload_n 1, 1) := by decide +kernel
theorem dX11_values_34 : decode cX11_values 34 = .ok (.iaload, 1) := by decide +kernel
theorem dX11_values_35 : decode cX11_values 35 = .ok (.iload 4, 2) := by decide +kernel
theorem dX11_values_37 : decode cX11_values 37 = .ok (.isub, 1) := by decide +kernel
theorem dX11_values_38 : decode cX11_values 38 = .ok (.istore 6, 2) := by decide +kernel
theorem dX11_values_40 : decode cX11_values 40 = .ok (.aload_n 0, 1) := by decide +kernel
theorem dX11_values_41 : decode cX11_values 41 = .ok (.getfield 71, 3) := by decide +kernel
theorem dX11_values_44 : decode cX11_values 44 = .ok (.iload_n 1, 1) := by decide +kernel
theorem dX11_values_45 : decode cX11_values 45 = .ok (.iaload, 1) := by decide +kernel
theorem dX11_values_46 : decode cX11_values 46 = .ok (.iload 5, 2) := by decide +kernel
theorem dX11_values_48 : decode cX11_values 48 = .ok (.isub, 1) := by decide +kernel
theorem dX11_values_49 : decode cX11_values 49 = .ok (.istore 7, 2) := by decide +kernel
theorem dX11_values_51 : decode cX11_values 51 = .ok (.iload 6, 2) := by decide +kernel
theorem dX11_values_53 : decode cX11_values 53 = .ok (.iload 7, 2) := by decide +kernel
theorem dX11_values_55 : decode cX11_values 55 = .ok (.if_icmp .ge 8, 3) := by decide +kernel
theorem dX11_values_58 : decode cX11_values 58 = .ok (.iload 6, 2) := by decide +kernel
theorem dX11_values_60 : decode cX11_values 60 = .ok (.goto 5, 3) := by decide +kernel
theorem dX11_values_63 : decode cX11_values 63 = .ok (.iload 7, 2) := by decide +kernel
theorem dX11_values_65 : decode cX11_values 65 = .ok (.istore 8, 2) := by decide +kernel
theorem dX11_values_67 : decode cX11_values 67 = .ok (.iload 6, 2) := by decide +kernel
theorem dX11_values_69 : decode cX11_values 69 = .ok (.iload 7, 2) := by decide +kernel
theorem dX11_values_71 : decode cX11_values 71 = .ok (.if_icmp .ge 8, 3) := by decide +kernel
theorem dX11_values_74 : decode cX11_values 74 = .ok (.iload 7, 2) := by decide +kernel
theorem dX11_values_76 : decode cX11_values 76 = .ok (.goto 5, 3) := by decide +kernel
theorem dX11_values_79 : decode cX11_values 79 = .ok (.iload 6, 2) := by decide +kernel
theorem dX11_values_81 : decode cX11_values 81 = .ok (.istore 9, 2) := by decide +kernel
theorem dX11_values_83 : decode cX11_values 83 = .ok (.aload_n 0, 1) := by decide +kernel
theorem dX11_values_84 : decode cX11_values 84 = .ok (.getfield 7, 3) := by decide +kernel
theorem dX11_values_87 : decode cX11_values 87 = .ok (.bipush 12, 2) := by decide +kernel
theorem dX11_values_89 : decode cX11_values 89 = .ok (.iaload, 1) := by decide +kernel
theorem dX11_values_90 : decode cX11_values 90 = .ok (.ifCond .ne 8, 3) := by decide +kernel
theorem dX11_values_93 : decode cX11_values 93 = .ok (.iload 8, 2) := by decide +kernel
theorem dX11_values_95 : decode cX11_values 95 = .ok (.goto 61, 3) := by decide +kernel
theorem dX11_values_98 : decode cX11_values 98 = .ok (.aload_n 0, 1) := by decide +kernel
theorem dX11_values_99 : decode cX11_values 99 = .ok (.getfield 7, 3) := by decide +kernel
theorem dX11_values_102 : decode cX11_values 102 = .ok (.bipush 12, 2) := by decide +kernel
theorem dX11_values_104 : decode cX11_values 104 = .ok (.iaload, 1) := by decide +kernel
theorem dX11_values_105 : decode cX11_values 105 = .ok (.iconst 1, 1) := by decide +kernel
theorem dX11_values_106 : decode cX11_values 106 = .ok (.if_icmp .ne 8, 3) := by decide +kernel
theorem dX11_values_109 : decode cX11_values 109 = .ok (.iload 9, 2) := by decide +kernel
theorem dX11_values_111 : decode cX11_values 111 = .ok (.goto 45, 3) := by decide +kernel
theorem dX11_values_114 : decode cX11_values 114 = .ok (.aload_n 0, 1) := by decide +kernel
theorem dX11_values_115 : decode cX11_values 115 = .ok (.getfield 7, 3) := by decide +kernel
theorem dX11_values_118 : decode cX11_values 118 = .ok (.bipush 12, 2) := by decide +kernel
theorem dX11_values_120 : decode cX11_values 120 = .ok (.iaload, 1) := by decide +kernel
theorem dX11_values_121 : decode cX11_values 121 = .ok (.iconst 2, 1) := by decide +kernel
theorem dX11_values_122 : decode cX11_values 122 = .ok (.if_icmp .ne 25, 3) := by decide +kernel
theorem dX11_values_125 : decode cX11_values 125 = .ok (.aload_n 0, 1) := by decide +kernel
theorem dX11_values_126 : decode cX11_values 126 = .ok (.getfield 68, 3) := by decide +kernel
theorem dX11_values_129 : decode cX11_values 129 = .ok (.iload_n 1, 1) := by decide +kernel
theorem dX11_values_130 : decode cX11_values 130 = .ok (.iaload, 1) := by decide +kernel
theorem dX11_values_131 : decode cX11_values 131 = .ok (.aload_n 0, 1) := by decide +kernel
theorem dX11_values_132 : decode cX11_values 132 = .ok (.getfield 71, 3) := by decide +kernel
theorem dX11_values_135 : decode cX11_values 135 = .ok (.iload_n 1, 1) := by decide +kernel
theorem dX11_values_136 : decode cX11_values 136 = .ok (.iaload, 1) := by decide +kernel
theorem dX11_values_137 : decode cX11_values 137 = .ok (.imul, 1) := by decide +kernel
theorem dX11_values_138 : decode cX11_values 138 = .ok (.iload 4, 2) := by decide +kernel
theorem dX11_values_140 : decode cX11_values 140 = .ok (.iload 5, 2) := by decide +kernel
theorem dX11_values_142 : decode cX11_values 142 = .ok (.imul, 1) := by decide +kernel
theorem dX11_values_143 : decode cX11_values 143 = .ok (.isub, 1) := by decide +kernel
theorem dX11_values_144 : decode cX11_values 144 = .ok (.goto 12, 3) := by decide +kernel
theorem dX11_values_147 : decode cX11_values 147 = .ok (.aload_n 0, 1) := by decide +kernel
theorem dX11_values_148 : decode cX11_values 148 = .ok (.getfield 65, 3) := by decide +kernel
theorem dX11_values_151 : decode cX11_values 151 = .ok (.iload_n 1, 1) := by decide +kernel
theorem dX11_values_152 : decode cX11_values 152 = .ok (.iaload, 1) := by decide +kernel
theorem dX11_values_153 : decode cX11_values 153 = .ok (.iload 5, 2) := by decide +kernel
theorem dX11_values_155 : decode cX11_values 155 = .ok (.iadd, 1) := by decide +kernel
theorem dX11_values_156 : decode cX11_values 156 = .ok (.istore 10, 2) := by decide +kernel
theorem dX11_values_158 : decode cX11_values 158 = .ok (.aload_n 0, 1) := by decide +kernel
theorem dX11_values_159 : decode cX11_values 159 = .ok (.getfield 7, 3) := by decide +kernel
theorem dX11_values_162 : decode cX11_values 162 = .ok (.bipush 12, 2) := by decide +kernel
theorem dX11_values_164 : decode cX11_values 164 = .ok (.iaload, 1) := by decide +kernel
theorem dX11_values_165 : decode cX11_values 165 = .ok (.ifCond .ne 8, 3) := by decide +kernel
theorem dX11_values_168 : decode cX11_values 168 = .ok (.iload 9, 2) := by decide +kernel
theorem dX11_values_170 : decode cX11_values 170 = .ok (.goto 25, 3) := by decide +kernel
theorem dX11_values_173 : decode cX11_values 173 = .ok (.aload_n 0, 1) := by decide +kernel
theorem dX11_values_174 : decode cX11_values 174 = .ok (.getfield 7, 3) := by decide +kernel
theorem dX11_values_177 : decode cX11_values 177 = .ok (.bipush 12, 2) := by decide +kernel
theorem dX11_values_179 : decode cX11_values 179 = .ok (.iaload, 1) := by decide +kernel
theorem dX11_values_180 : decode cX11_values 180 = .ok (.iconst 3, 1) := by decide +kernel
theorem dX11_values_181 : decode cX11_values 181 = .ok (.if_icmp .ne 12, 3) := by decide +kernel
theorem dX11_values_184 : decode cX11_values 184 = .ok (.aload_n 0, 1) := by decide +kernel
theorem dX11_values_185 : decode cX11_values 185 = .ok (.getfield 62, 3) := by decide +kernel
theorem dX11_values_188 : decode cX11_values 188 = .ok (.iload_n 1, 1) := by decide +kernel
theorem dX11_values_189 : decode cX11_values 189 = .ok (.iaload, 1) := by decide +kernel
theorem dX11_values_190 : decode cX11_values 190 = .ok (.goto 5, 3) := by decide +kernel
theorem dX11_values_193 : decode cX11_values 193 = .ok (.iload 8, 2) := by decide +kernel
theorem dX11_values_195 : decode cX11_values 195 = .ok (.istore 11, 2) := by decide +kernel
theorem dX11_values_197 : decode cX11_values 197 = .ok (.aload_n 0, 1) := by decide +kernel
theorem dX11_values_198 : decode cX11_values 198 = .ok (.getfield 222, 3) := by decide +kernel
theorem dX11_values_201 : decode cX11_values 201 = .ok (.ifCond .lt 30, 3) := by decide +kernel
theorem dX11_values_204 : decode cX11_values 204 = .ok (.iload 10, 2) := by decide +kernel
theorem dX11_values_206 : decode cX11_values 206 = .ok (.aload_n 0, 1) := by decide +kernel
theorem dX11_values_207 : decode cX11_values 207 = .ok (.getfield 225, 3) := by decide +kernel
theorem dX11_values_210 : decode cX11_values 210 = .ok (.if_icmp .lt 21, 3) := by decide +kernel
theorem dX11_values_213 : decode cX11_values 213 = .ok (.iload 10, 2) := by decide +kernel
theorem dX11_values_215 : decode cX11_values 215 = .ok (.aload_n 0, 1) := by decide +kernel
theorem dX11_values_216 : decode cX11_values 216 = .ok (.getfield 225, 3) := by decide +kernel
theorem dX11_values_219 : decode cX11_values 219 = .ok (.if_icmp .ne 34, 3) := by decide +kernel
theorem dX11_values_222 : decode cX11_values 222 = .ok (.iload 11, 2) := by decide +kernel
theorem dX11_values_224 : decode cX11_values 224 = .ok (.aload_n 0, 1) := by decide +kernel
theorem dX11_values_225 : decode cX11_values 225 = .ok (.getfield 228, 3) := by decide +kernel
theorem dX11_values_228 : decode cX11_values 228 = .ok (.if_icmp .ge 25, 3) := by decide +kernel
theorem dX11_values_231 : decode cX11_values 231 = .ok (.aload_n 0, 1) := by decide +kernel
theorem dX11_values_232 : decode cX11_values 232 = .ok (.iload_n 1, 1) := by decide +kernel
theorem dX11_values_233 : decode cX11_values 233 = .ok (.putfield 222, 3) := by decide +kernel
theorem dX11_values_236 : decode cX11_values 236 = .ok (.aload_n 0, 1) := by decide +kernel
theorem dX11_values_237 : decode cX11_values 237 = .ok (.iload_n 3, 1) := by decide +kernel
theorem dX11_values_238 : decode cX11_values 238 = .ok (.putfield 231, 3) := by decide +kernel
theorem dX11_values_241 : decode cX11_values 241 = .ok (.aload_n 0, 1) := by decide +kernel
theorem dX11_values_242 : decode cX11_values 242 = .ok (.iload 10, 2) := by decide +kernel
theorem dX11_values_244 : decode cX11_values 244 = .ok (.putfield 225, 3) := by decide +kernel
theorem dX11_values_247 : decode cX11_values 247 = .ok (.aload_n 0, 1) := by decide +kernel
theorem dX11_values_248 : decode cX11_values 248 = .ok (.iload 11, 2) := by decide +kernel
theorem dX11_values_250 : decode cX11_values 250 = .ok (.putfield 228, 3) := by decide +kernel
theorem dX11_values_253 : decode cX11_values 253 = .ok (.return_, 1) := by decide +kernel
theorem dX11_placesOn_0 : decode cX11_placesOn 0 = .ok (.aload_n 0, 1) := by decide +kernel
theorem dX11_placesOn_1 : decode cX11_placesOn 1 = .ok (.iload_n 1, 1) := by decide +kernel
theorem dX11_placesOn_2 : decode cX11_placesOn 2 = .ok (.invokevirtual 234, 3) := by decide +kernel
theorem dX11_placesOn_5 : decode cX11_placesOn 5 = .ok (.aload_n 0, 1) := by decide +kernel
theorem dX11_placesOn_6 : decode cX11_placesOn 6 = .ok (.iconst (-1), 1) := by decide +kernel
theorem dX11_placesOn_7 : decode cX11_placesOn 7 = .ok (.putfield 222, 3) := by decide +kernel
theorem dX11_placesOn_10 : decode cX11_placesOn 10 = .ok (.iconst 0, 1) := by decide +kernel
theorem dX11_placesOn_11 : decode cX11_placesOn 11 = .ok (.istore_n 3, 1) := by decide +kernel
theorem dX11_placesOn_12 : decode cX11_placesOn 12 = .ok (.iload_n 3, 1) := by decide +kernel
theorem dX11_placesOn_13 : decode cX11_placesOn 13 = .ok (.aload_n 0, 1) := by decide +kernel
theorem dX11_placesOn_14 : decode cX11_placesOn 14 = .ok (.getfield 200, 3) := by decide +kernel
theorem dX11_placesOn_17 : decode cX11_placesOn 17 = .ok (.if_icmp .ge 34, 3) := by decide +kernel
theorem dX11_placesOn_20 : decode cX11_placesOn 20 = .ok (.aload_n 0, 1) := by decide +kernel
theorem dX11_placesOn_21 : decode cX11_placesOn 21 = .ok (.iload_n 3, 1) := by decide +kernel
theorem dX11_placesOn_22 : decode cX11_placesOn 22 = .ok (.iload_n 2, 1) := by decide +kernel
theorem dX11_placesOn_23 : decode cX11_placesOn 23 = .ok (.iconst 0, 1) := by decide +kernel
theorem dX11_placesOn_24 : decode cX11_placesOn 24 = .ok (.invokevirtual 237, 3) := by decide +kernel
theorem dX11_placesOn_27 : decode cX11_placesOn 27 = .ok (.aload_n 0, 1) := by decide +kernel
theorem dX11_placesOn_28 : decode cX11_placesOn 28 = .ok (.getfield 7, 3) := by decide +kernel
theorem dX11_placesOn_31 : decode cX11_placesOn 31 = .ok (.bipush 9, 2) := by decide +kernel
theorem dX11_placesOn_33 : decode cX11_placesOn 33 = .ok (.iaload, 1) := by decide +kernel
theorem dX11_placesOn_34 : decode cX11_placesOn 34 = .ok (.iconst 1, 1) := by decide +kernel
theorem dX11_placesOn_35 : decode cX11_placesOn 35 = .ok (.if_icmp .ne 10, 3) := by decide +kernel
theorem dX11_placesOn_38 : decode cX11_placesOn 38 = .ok (.aload_n 0, 1) := by decide +kernel
theorem dX11_placesOn_39 : decode cX11_placesOn 39 = .ok (.iload_n 3, 1) := by decide +kernel
theorem dX11_placesOn_40 : decode cX11_placesOn 40 = .ok (.iload_n 2, 1) := by decide +kernel
theorem dX11_placesOn_41 : decode cX11_placesOn 41 = .ok (.iconst 1, 1) := by decide +kernel
theorem dX11_placesOn_42 : decode cX11_placesOn 42 = .ok (.invokevirtual 237, 3) := by decide +kernel
theorem dX11_placesOn_45 : decode cX11_placesOn 45 = .ok (.iinc 3 1, 3) := by decide +kernel
theorem dX11_placesOn_48 : decode cX11_placesOn 48 = .ok (.goto (-36), 3) := by decide +kernel
theorem dX11_placesOn_51 : decode cX11_placesOn 51 = .ok (.aload_n 0, 1) := by decide +kernel
theorem dX11_placesOn_52 : decode cX11_placesOn 52 = .ok (.getfield 222, 3) := by decide +kernel
theorem dX11_placesOn_55 : decode cX11_placesOn 55 = .ok (.ifCond .ge 5, 3) := by decide +kernel
theorem dX11_placesOn_58 : decode cX11_placesOn 58 = .ok (.iconst 0, 1) := by decide +kernel
theorem dX11_placesOn_59 : decode cX11_placesOn 59 = .ok (.ireturn, 1) := by decide +kernel
theorem dX11_placesOn_60 : decode cX11_placesOn 60 = .ok (.aload_n 0, 1) := by decide +kernel
theorem dX11_placesOn_61 : decode cX11_placesOn 61 = .ok (.getfield 185, 3) := by decide +kernel
theorem dX11_placesOn_64 : decode cX11_placesOn 64 = .ok (.ifCond .ne 22, 3) := by decide +kernel
theorem dX11_placesOn_67 : decode cX11_placesOn 67 = .ok (.aload_n 0, 1) := by decide +kernel
theorem dX11_placesOn_68 : decode cX11_placesOn 68 = .ok (.getfield 7, 3) := by decide +kernel
theorem dX11_placesOn_71 : decode cX11_placesOn 71 = .ok (.bipush 14, 2) := by decide +kernel
theorem dX11_placesOn_73 : decode cX11_placesOn 73 = .ok (.iload_n 1, 1) := by decide +kernel
theorem dX11_placesOn_74 : decode cX11_placesOn 74 = .ok (.iadd, 1) := by decide +kernel
theorem dX11_placesOn_75 : decode cX11_placesOn 75 = .ok (.aload_n 0, 1) := by decide +kernel
theorem dX11_placesOn_76 : decode cX11_placesOn 76 = .ok (.getfield 7, 3) := by decide +kernel
theorem dX11_placesOn_79 : decode cX11_placesOn 79 = .ok (.iload_n 2, 1) := by decide +kernel
theorem dX11_placesOn_80 : decode cX11_placesOn 80 = .ok (.iconst 2, 1) := by decide +kernel
theorem dX11_placesOn_81 : decode cX11_placesOn 81 = .ok (.invokestatic 94, 3) := by decide +kernel
theorem dX11_placesOn_84 : decode cX11_placesOn 84 = .ok (.iaload, 1) := by decide +kernel
theorem dX11_placesOn_85 : decode cX11_placesOn 85 = .ok (.iastore, 1) := by decide +kernel
theorem dX11_placesOn_86 : decode cX11_placesOn 86 = .ok (.aload_n 0, 1) := by decide +kernel
theorem dX11_placesOn_87 : decode cX11_placesOn 87 = .ok (.getfield 7, 3) := by decide +kernel
theorem dX11_placesOn_90 : decode cX11_placesOn 90 = .ok (.iload_n 2, 1) := by decide +kernel
theorem dX11_placesOn_91 : decode cX11_placesOn 91 = .ok (.iconst 3, 1) := by decide +kernel
theorem dX11_placesOn_92 : decode cX11_placesOn 92 = .ok (.invokestatic 94, 3) := by decide +kernel
theorem dX11_placesOn_95 : decode cX11_placesOn 95 = .ok (.iload_n 1, 1) := by decide +kernel
theorem dX11_placesOn_96 : decode cX11_placesOn 96 = .ok (.iastore, 1) := by decide +kernel
theorem dX11_placesOn_97 : decode cX11_placesOn 97 = .ok (.aload_n 0, 1) := by decide +kernel
theorem dX11_placesOn_98 : decode cX11_placesOn 98 = .ok (.getfield 7, 3) := by decide +kernel
theorem dX11_placesOn_101 : decode cX11_placesOn 101 = .ok (.iload_n 2, 1) := by decide +kernel
theorem dX11_placesOn_102 : decode cX11_placesOn 102 = .ok (.iconst 4, 1) := by decide +kernel
theorem dX11_placesOn_103 : decode cX11_placesOn 103 = .ok (.invokestatic 94, 3) := by decide +kernel
theorem dX11_placesOn_106 : decode cX11_placesOn 106 = .ok (.aload_n 0, 1) := by decide +kernel
theorem dX11_placesOn_107 : decode cX11_placesOn 107 = .ok (.getfield 62, 3) := by decide +kernel
theorem dX11_placesOn_110 : decode cX11_placesOn 110 = .ok (.aload_n 0, 1) := by decide +kernel
theorem dX11_placesOn_111 : decode cX11_placesOn 111 = .ok (.getfield 222, 3) := by decide +kernel
theorem dX11_placesOn_114 : decode cX11_placesOn 114 = .ok (.iaload, 1) := by decide +kernel
theorem dX11_placesOn_115 : decode cX11_placesOn 115 = .ok (.iastore, 1) := by decide +kernel
theorem dX11_placesOn_116 : decode cX11_placesOn 116 = .ok (.aload_n 0, 1) := by decide +kernel
theorem dX11_placesOn_117 : decode cX11_placesOn 117 = .ok (.getfield 7, 3) := by decide +kernel
theorem dX11_placesOn_120 : decode cX11_placesOn 120 = .ok (.iload_n 2, 1) := by decide +kernel
theorem dX11_placesOn_121 : decode cX11_placesOn 121 = .ok (.iconst 5, 1) := by decide +kernel
theorem dX11_placesOn_122 : decode cX11_placesOn 122 = .ok (.invokestatic 94, 3) := by decide +kernel
theorem dX11_placesOn_125 : decode cX11_placesOn 125 = .ok (.aload_n 0, 1) := by decide +kernel
theorem dX11_placesOn_126 : decode cX11_placesOn 126 = .ok (.getfield 65, 3) := by decide +kernel
theorem dX11_placesOn_129 : decode cX11_placesOn 129 = .ok (.aload_n 0, 1) := by decide +kernel
theorem dX11_placesOn_130 : decode cX11_placesOn 130 = .ok (.getfield 222, 3) := by decide +kernel
theorem dX11_placesOn_133 : decode cX11_placesOn 133 = .ok (.iaload, 1) := by decide +kernel
theorem dX11_placesOn_134 : decode cX11_placesOn 134 = .ok (.iastore, 1) := by decide +kernel
theorem dX11_placesOn_135 : decode cX11_placesOn 135 = .ok (.aload_n 0, 1) := by decide +kernel
theorem dX11_placesOn_136 : decode cX11_placesOn 136 = .ok (.getfield 7, 3) := by decide +kernel
theorem dX11_placesOn_139 : decode cX11_placesOn 139 = .ok (.iload_n 2, 1) := by decide +kernel
theorem dX11_placesOn_140 : decode cX11_placesOn 140 = .ok (.bipush 6, 2) := by decide +kernel
theorem dX11_placesOn_142 : decode cX11_placesOn 142 = .ok (.invokestatic 94, 3) := by decide +kernel
theorem dX11_placesOn_145 : decode cX11_placesOn 145 = .ok (.aload_n 0, 1) := by decide +kernel
theorem dX11_placesOn_146 : decode cX11_placesOn 146 = .ok (.getfield 231, 3) := by decide +kernel
theorem dX11_placesOn_149 : decode cX11_placesOn 149 = .ok (.iastore, 1) := by decide +kernel
theorem dX11_placesOn_150 : decode cX11_placesOn 150 = .ok (.iconst 1, 1) := by decide +kernel
theorem dX11_placesOn_151 : decode cX11_placesOn 151 = .ok (.ireturn, 1) := by decide +kernel
theorem dX11_isOpen_0 : decode cX11_isOpen 0 = .ok (.aload_n 0, 1) := by decide +kernel
theorem dX11_isOpen_1 : decode cX11_isOpen 1 = .ok (.iload_n 1, 1) := by decide +kernel
theorem dX11_isOpen_2 : decode cX11_isOpen 2 = .ok (.invokevirtual 213, 3) := by decide +kernel
theorem dX11_isOpen_5 : decode cX11_isOpen 5 = .ok (.aload_n 0, 1) := by decide +kernel
theorem dX11_isOpen_6 : decode cX11_isOpen 6 = .ok (.getfield 7, 3) := by decide +kernel
theorem dX11_isOpen_9 : decode cX11_isOpen 9 = .ok (.bipush 10, 2) := by decide +kernel
theorem dX11_isOpen_11 : decode cX11_isOpen 11 = .ok (.iaload, 1) := by decide +kernel
theorem dX11_isOpen_12 : decode cX11_isOpen 12 = .ok (.ifCond .eq 32, 3) := by decide +kernel
theorem dX11_isOpen_15 : decode cX11_isOpen 15 = .ok (.aload_n 0, 1) := by decide +kernel
theorem dX11_isOpen_16 : decode cX11_isOpen 16 = .ok (.getfield 185, 3) := by decide +kernel
theorem dX11_isOpen_19 : decode cX11_isOpen 19 = .ok (.ifCond .eq 25, 3) := by decide +kernel
theorem dX11_isOpen_22 : decode cX11_isOpen 22 = .ok (.aload_n 0, 1) := by decide +kernel
theorem dX11_isOpen_23 : decode cX11_isOpen 23 = .ok (.getfield 7, 3) := by decide +kernel
theorem dX11_isOpen_26 : decode cX11_isOpen 26 = .ok (.bipush 14, 2) := by decide +kernel
theorem dX11_isOpen_28 : decode cX11_isOpen 28 = .ok (.iload_n 1, 1) := by decide +kernel
theorem dX11_isOpen_29 : decode cX11_isOpen 29 = .ok (.iadd, 1) := by decide +kernel
theorem dX11_isOpen_30 : decode cX11_isOpen 30 = .ok (.iaload, 1) := by decide +kernel
theorem dX11_isOpen_31 : decode cX11_isOpen 31 = .ok (.aload_n 0, 1) := by decide +kernel
theorem dX11_isOpen_32 : decode cX11_isOpen 32 = .ok (.getfield 7, 3) := by decide +kernel
theorem dX11_isOpen_35 : decode cX11_isOpen 35 = .ok (.iload_n 2, 1) := by decide +kernel
theorem dX11_isOpen_36 : decode cX11_isOpen 36 = .ok (.iconst 2, 1) := by decide +kernel
theorem dX11_isOpen_37 : decode cX11_isOpen 37 = .ok (.invokestatic 94, 3) := by decide +kernel
theorem dX11_isOpen_40 : decode cX11_isOpen 40 = .ok (.iaload, 1) := by decide +kernel
theorem dX11_isOpen_41 : decode cX11_isOpen 41 = .ok (.if_icmp .ne 7, 3) := by decide +kernel
theorem dX11_isOpen_44 : decode cX11_isOpen 44 = .ok (.iconst 1, 1) := by decide +kernel
theorem dX11_isOpen_45 : decode cX11_isOpen 45 = .ok (.goto 4, 3) := by decide +kernel
theorem dX11_isOpen_48 : decode cX11_isOpen 48 = .ok (.iconst 0, 1) := by decide +kernel
theorem dX11_isOpen_49 : decode cX11_isOpen 49 = .ok (.ireturn, 1) := by decide +kernel
theorem dX11_places_0 : decode cX11_places 0 = .ok (.iconst 0, 1) := by decide +kernel
theorem dX11_places_1 : decode cX11_places 1 = .ok (.istore_n 2, 1) := by decide +kernel
theorem dX11_places_2 : decode cX11_places 2 = .ok (.iconst 0, 1) := by decide +kernel
theorem dX11_places_3 : decode cX11_places 3 = .ok (.istore_n 3, 1) := by decide +kernel
theorem dX11_places_4 : decode cX11_places 4 = .ok (.iload_n 3, 1) := by decide +kernel
theorem dX11_places_5 : decode cX11_places 5 = .ok (.aload_n 0, 1) := by decide +kernel
theorem dX11_places_6 : decode cX11_places 6 = .ok (.getfield 7, 3) := by decide +kernel
theorem dX11_places_9 : decode cX11_places 9 = .ok (.bipush 13, 2) := by decide +kernel
theorem dX11_places_11 : decode cX11_places 11 = .ok (.iaload, 1) := by decide +kernel
theorem dX11_places_12 : decode cX11_places 12 = .ok (.if_icmp .ge 37, 3) := by decide +kernel
theorem dX11_places_15 : decode cX11_places 15 = .ok (.iload_n 2, 1) := by decide +kernel
theorem dX11_places_16 : decode cX11_places 16 = .ok (.ifCond .ne 33, 3) := by decide +kernel
theorem dX11_places_19 : decode cX11_places 19 = .ok (.aload_n 0, 1) := by decide +kernel
theorem dX11_places_20 : decode cX11_places 20 = .ok (.iload_n 3, 1) := by decide +kernel
theorem dX11_places_21 : decode cX11_places 21 = .ok (.iload_n 1, 1) := by decide +kernel
theorem dX11_places_22 : decode cX11_places 22 = .ok (.invokevirtual 241, 3) := by decide +kernel
theorem dX11_places_25 : decode cX11_places 25 = .ok (.ifCond .eq 16, 3) := by decide +kernel
theorem dX11_places_28 : decode cX11_places 28 = .ok (.aload_n 0, 1) := by decide +kernel
theorem dX11_places_29 : decode cX11_places 29 = .ok (.iload_n 3, 1) := by decide +kernel
theorem dX11_places_30 : decode cX11_places 30 = .ok (.iload_n 1, 1) := by decide +kernel
theorem dX11_places_31 : decode cX11_places 31 = .ok (.invokevirtual 245, 3) := by decide +kernel
theorem dX11_places_34 : decode cX11_places 34 = .ok (.ifCond .eq 7, 3) := by decide +kernel
theorem dX11_places_37 : decode cX11_places 37 = .ok (.iconst 1, 1) := by decide +kernel
theorem dX11_places_38 : decode cX11_places 38 = .ok (.goto 4, 3) := by decide +kernel
theorem dX11_places_41 : decode cX11_places 41 = .ok (.iconst 0, 1) := by decide +kernel
theorem dX11_places_42 : decode cX11_places 42 = .ok (.istore_n 2, 1) := by decide +kernel
theorem dX11_places_43 : decode cX11_places 43 = .ok (.iinc 3 1, 3) := by decide +kernel
theorem dX11_places_46 : decode cX11_places 46 = .ok (.goto (-42), 3) := by decide +kernel
theorem dX11_places_49 : decode cX11_places 49 = .ok (.iload_n 2, 1) := by decide +kernel
theorem dX11_places_50 : decode cX11_places 50 = .ok (.ifCond .ne 51, 3) := by decide +kernel
theorem dX11_places_53 : decode cX11_places 53 = .ok (.aload_n 0, 1) := by decide +kernel
theorem dX11_places_54 : decode cX11_places 54 = .ok (.getfield 7, 3) := by decide +kernel
theorem dX11_places_57 : decode cX11_places 57 = .ok (.bipush 13, 2) := by decide +kernel
theorem dX11_places_59 : decode cX11_places 59 = .ok (.iaload, 1) := by decide +kernel
theorem dX11_places_60 : decode cX11_places 60 = .ok (.aload_n 0, 1) := by decide +kernel
theorem dX11_places_61 : decode cX11_places 61 = .ok (.getfield 7, 3) := by decide +kernel
theorem dX11_places_64 : decode cX11_places 64 = .ok (.iconst 3, 1) := by decide +kernel
theorem dX11_places_65 : decode cX11_places 65 = .ok (.iaload, 1) := by decide +kernel
theorem dX11_places_66 : decode cX11_places 66 = .ok (.if_icmp .ge 35, 3) := by decide +kernel
theorem dX11_places_69 : decode cX11_places 69 = .ok (.aload_n 0, 1) := by decide +kernel
theorem dX11_places_70 : decode cX11_places 70 = .ok (.aload_n 0, 1) := by decide +kernel
theorem dX11_places_71 : decode cX11_places 71 = .ok (.getfield 7, 3) := by decide +kernel
theorem dX11_places_74 : decode cX11_places 74 = .ok (.bipush 13, 2) := by decide +kernel
theorem dX11_places_76 : decode cX11_places 76 = .ok (.iaload, 1) := by decide +kernel
theorem dX11_places_77 : decode cX11_places 77 = .ok (.iload_n 1, 1) := by decide +kernel
theorem dX11_places_78 : decode cX11_places 78 = .ok (.invokevirtual 245, 3) := by decide +kernel
theorem dX11_places_81 : decode cX11_places 81 = .ok (.istore_n 2, 1) := by decide +kernel
theorem dX11_places_82 : decode cX11_places 82 = .ok (.aload_n 0, 1) := by decide +kernel
theorem dX11_places_83 : decode cX11_places 83 = .ok (.getfield 7, 3) := by decide +kernel
theorem dX11_places_86 : decode cX11_places 86 = .ok (.bipush 13, 2) := by decide +kernel
theorem dX11_places_88 : decode cX11_places 88 = .ok (.dup2, 1) := by decide +kernel
theorem dX11_places_89 : decode cX11_places 89 = .ok (.iaload, 1) := by decide +kernel
theorem dX11_places_90 : decode cX11_places 90 = .ok (.iload_n 2, 1) := by decide +kernel
theorem dX11_places_91 : decode cX11_places 91 = .ok (.ifCond .eq 7, 3) := by decide +kernel
theorem dX11_places_94 : decode cX11_places 94 = .ok (.iconst 1, 1) := by decide +kernel
theorem dX11_places_95 : decode cX11_places 95 = .ok (.goto 4, 3) := by decide +kernel
theorem dX11_places_98 : decode cX11_places 98 = .ok (.iconst 0, 1) := by decide +kernel
theorem dX11_places_99 : decode cX11_places 99 = .ok (.iadd, 1) := by decide +kernel
theorem dX11_places_100 : decode cX11_places 100 = .ok (.iastore, 1) := by decide +kernel
theorem dX11_places_101 : decode cX11_places 101 = .ok (.iload_n 2, 1) := by decide +kernel
theorem dX11_places_102 : decode cX11_places 102 = .ok (.ireturn, 1) := by decide +kernel
theorem dX11_isFirst_0 : decode cX11_isFirst 0 = .ok (.iconst 0, 1) := by decide +kernel
theorem dX11_isFirst_1 : decode cX11_isFirst 1 = .ok (.istore_n 3, 1) := by decide +kernel
theorem dX11_isFirst_2 : decode cX11_isFirst 2 = .ok (.iconst 0, 1) := by decide +kernel
theorem dX11_isFirst_3 : decode cX11_isFirst 3 = .ok (.istore 4, 2) := by decide +kernel
theorem dX11_isFirst_5 : decode cX11_isFirst 5 = .ok (.aload_n 0, 1) := by decide +kernel
theorem dX11_isFirst_6 : decode cX11_isFirst 6 = .ok (.getfield 7, 3) := by decide +kernel
theorem dX11_isFirst_9 : decode cX11_isFirst 9 = .ok (.bipush 11, 2) := by decide +kernel
theorem dX11_isFirst_11 : decode cX11_isFirst 11 = .ok (.iaload, 1) := by decide +kernel
theorem dX11_isFirst_12 : decode cX11_isFirst 12 = .ok (.iconst 1, 1) := by decide +kernel
theorem dX11_isFirst_13 : decode cX11_isFirst 13 = .ok (.if_icmp .ne 34, 3) := by decide +kernel
theorem dX11_isFirst_16 : decode cX11_isFirst 16 = .ok (.aload_n 0, 1) := by decide +kernel
theorem dX11_isFirst_17 : decode cX11_isFirst 17 = .ok (.getfield 38, 3) := by decide +kernel
theorem dX11_isFirst_20 : decode cX11_isFirst 20 = .ok (.iload_n 1, 1) := by decide +kernel
theorem dX11_isFirst_21 : decode cX11_isFirst 21 = .ok (.iaload, 1) := by decide +kernel
theorem dX11_isFirst_22 : decode cX11_isFirst 22 = .ok (.aload_n 0, 1) := by decide +kernel
theorem dX11_isFirst_23 : decode cX11_isFirst 23 = .ok (.getfield 41, 3) := by decide +kernel
theorem dX11_isFirst_26 : decode cX11_isFirst 26 = .ok (.iload_n 1, 1) := by decide +kernel
theorem dX11_isFirst_27 : decode cX11_isFirst 27 = .ok (.iaload, 1) := by decide +kernel
theorem dX11_isFirst_28 : decode cX11_isFirst 28 = .ok (.imul, 1) := by decide +kernel
theorem dX11_isFirst_29 : decode cX11_isFirst 29 = .ok (.aload_n 0, 1) := by decide +kernel
theorem dX11_isFirst_30 : decode cX11_isFirst 30 = .ok (.getfield 38, 3) := by decide +kernel
theorem dX11_isFirst_33 : decode cX11_isFirst 33 = .ok (.iload_n 2, 1) := by decide +kernel
theorem dX11_isFirst_34 : decode cX11_isFirst 34 = .ok (.iaload, 1) := by decide +kernel
theorem dX11_isFirst_35 : decode cX11_isFirst 35 = .ok (.aload_n 0, 1) := by decide +kernel
theorem dX11_isFirst_36 : decode cX11_isFirst 36 = .ok (.getfield 41, 3) := by decide +kernel
theorem dX11_isFirst_39 : decode cX11_isFirst 39 = .ok (.iload_n 2, 1) := by decide +kernel
theorem dX11_isFirst_40 : decode cX11_isFirst 40 = .ok (.iaload, 1) := by decide +kernel
theorem dX11_isFirst_41 : decode cX11_isFirst 41 = .ok (.imul, 1) := by decide +kernel
theorem dX11_isFirst_42 : decode cX11_isFirst 42 = .ok (.isub, 1) := by decide +kernel
theorem dX11_isFirst_43 : decode cX11_isFirst 43 = .ok (.istore_n 3, 1) := by decide +kernel
theorem dX11_isFirst_44 : decode cX11_isFirst 44 = .ok (.goto 158, 3) := by decide +kernel
theorem dX11_isFirst_47 : decode cX11_isFirst 47 = .ok (.aload_n 0, 1) := by decide +kernel
theorem dX11_isFirst_48 : decode cX11_isFirst 48 = .ok (.getfield 7, 3) := by decide +kernel
theorem dX11_isFirst_51 : decode cX11_isFirst 51 = .ok (.bipush 11, 2) := by decide +kernel
theorem dX11_isFirst_53 : decode cX11_isFirst 53 = .ok (.iaload, 1) := by decide +kernel
theorem dX11_isFirst_54 : decode cX11_isFirst 54 = .ok (.iconst 2, 1) := by decide +kernel
theorem dX11_isFirst_55 : decode cX11_isFirst 55 = .ok (.if_icmp .ne 107, 3) := by decide +kernel
theorem dX11_isFirst_58 : decode cX11_isFirst 58 = .ok (.aload_n 0, 1) := by decide +kernel
theorem dX11_isFirst_59 : decode cX11_isFirst 59 = .ok (.getfield 38, 3) := by decide +kernel
theorem dX11_isFirst_62 : decode cX11_isFirst 62 = .ok (.iload_n 1, 1) := by decide +kernel
theorem dX11_isFirst_63 : decode cX11_isFirst 63 = .ok (.iaload, 1) := by decide +kernel
theorem dX11_isFirst_64 : decode cX11_isFirst 64 = .ok (.aload_n 0, 1) := by decide +kernel
theorem dX11_isFirst_65 : decode cX11_isFirst 65 = .ok (.getfield 41, 3) := by decide +kernel
theorem dX11_isFirst_68 : decode cX11_isFirst 68 = .ok (.iload_n 1, 1) := by decide +kernel
theorem dX11_isFirst_69 : decode cX11_isFirst 69 = .ok (.iaload, 1) := by decide +kernel
theorem dX11_isFirst_70 : decode cX11_isFirst 70 = .ok (.if_icmp .le 12, 3) := by decide +kernel
theorem dX11_isFirst_73 : decode cX11_isFirst 73 = .ok (.aload_n 0, 1) := by decide +kernel
theorem dX11_isFirst_74 : decode cX11_isFirst 74 = .ok (.getfield 38, 3) := by decide +kernel
theorem dX11_isFirst_77 : decode cX11_isFirst 77 = .ok (.iload_n 1, 1) := by decide +kernel
theorem dX11_isFirst_78 : decode cX11_isFirst 78 = .ok (.iaload, 1) := by decide +kernel
theorem dX11_isFirst_79 : decode cX11_isFirst 79 = .ok (.goto 9, 3) := by decide +kernel
theorem dX11_isFirst_82 : decode cX11_isFirst 82 = .ok (.aload_n 0, 1) := by decide +kernel
theorem dX11_isFirst_83 : decode cX11_isFirst 83 = .ok (.getfield 41, 3) := by decide +kernel
theorem dX11_isFirst_86 : decode cX11_isFirst 86 = .ok (.iload_n 1, 1) := by decide +kernel
theorem dX11_isFirst_87 : decode cX11_isFirst 87 = .ok (.iaload, 1) := by decide +kernel
theorem dX11_isFirst_88 : decode cX11_isFirst 88 = .ok (.istore 5, 2) := by decide +kernel
theorem dX11_isFirst_90 : decode cX11_isFirst 90 = .ok (.aload_n 0, 1) := by decide +kernel
theorem dX11_isFirst_91 : decode cX11_isFirst 91 = .ok (.getfield 38, 3) := by decide +kernel
theorem dX11_isFirst_94 : decode cX11_isFirst 94 = .ok (.iload_n 2, 1) := by decide +kernel
theorem dX11_isFirst_95 : decode cX11_isFirst 95 = .ok (.iaload, 1) := by decide +kernel
theorem dX11_isFirst_96 : decode cX11_isFirst 96 = .ok (.aload_n 0, 1) := by decide +kernel
theorem dX11_isFirst_97 : decode cX11_isFirst 97 = .ok (.getfield 41, 3) := by decide +kernel
theorem dX11_isFirst_100 : decode cX11_isFirst 100 = .ok (.iload_n 2, 1) := by decide +kernel
theorem dX11_isFirst_101 : decode cX11_isFirst 101 = .ok (.iaload, 1) := by decide +kernel
theorem dX11_isFirst_102 : decode cX11_isFirst 102 = .ok (.if_icmp .le 12, 3) := by decide +kernel
theorem dX11_isFirst_105 : decode cX11_isFirst 105 = .ok (.aload_n 0, 1) := by decide +kernel
theorem dX11_isFirst_106 : decode cX11_isFirst 106 = .ok (.getfield 38, 3) := by decide +kernel
theorem dX11_isFirst_109 : decode cX11_isFirst 109 = .ok (.iload_n 2, 1) := by decide +kernel
theorem dX11_isFirst_110 : decode cX11_isFirst 110 = .ok (.iaload, 1) := by decide +kernel
theorem dX11_isFirst_111 : decode cX11_isFirst 111 = .ok (.goto 9, 3) := by decide +kernel
theorem dX11_isFirst_114 : decode cX11_isFirst 114 = .ok (.aload_n 0, 1) := by decide +kernel
theorem dX11_isFirst_115 : decode cX11_isFirst 115 = .ok (.getfield 41, 3) := by decide +kernel
theorem dX11_isFirst_118 : decode cX11_isFirst 118 = .ok (.iload_n 2, 1) := by decide +kernel
theorem dX11_isFirst_119 : decode cX11_isFirst 119 = .ok (.iaload, 1) := by decide +kernel
theorem dX11_isFirst_120 : decode cX11_isFirst 120 = .ok (.istore 6, 2) := by decide +kernel
theorem dX11_isFirst_122 : decode cX11_isFirst 122 = .ok (.iload 5, 2) := by decide +kernel
theorem dX11_isFirst_124 : decode cX11_isFirst 124 = .ok (.iload 6, 2) := by decide +kernel
theorem dX11_isFirst_126 : decode cX11_isFirst 126 = .ok (.isub, 1) := by decide +kernel
theorem dX11_isFirst_127 : decode cX11_isFirst 127 = .ok (.istore_n 3, 1) := by decide +kernel
theorem dX11_isFirst_128 : decode cX11_isFirst 128 = .ok (.aload_n 0, 1) := by decide +kernel
theorem dX11_isFirst_129 : decode cX11_isFirst 129 = .ok (.getfield 38, 3) := by decide +kernel
theorem dX11_isFirst_132 : decode cX11_isFirst 132 = .ok (.iload_n 1, 1) := by decide +kernel
theorem dX11_isFirst_133 : decode cX11_isFirst 133 = .ok (.iaload, 1) := by decide +kernel
theorem dX11_isFirst_134 : decode cX11_isFirst 134 = .ok (.aload_n 0, 1) := by decide +kernel
theorem dX11_isFirst_135 : decode cX11_isFirst 135 = .ok (.getfield 41, 3) := by decide +kernel
theorem dX11_isFirst_138 : decode cX11_isFirst 138 = .ok (.iload_n 1, 1) := by decide +kernel
theorem dX11_isFirst_139 : decode cX11_isFirst 139 = .ok (.iaload, 1) := by decide +kernel
theorem dX11_isFirst_140 : decode cX11_isFirst 140 = .ok (.iadd, 1) := by decide +kernel
theorem dX11_isFirst_141 : decode cX11_isFirst 141 = .ok (.aload_n 0, 1) := by decide +kernel
theorem dX11_isFirst_142 : decode cX11_isFirst 142 = .ok (.getfield 38, 3) := by decide +kernel
theorem dX11_isFirst_145 : decode cX11_isFirst 145 = .ok (.iload_n 2, 1) := by decide +kernel
theorem dX11_isFirst_146 : decode cX11_isFirst 146 = .ok (.iaload, 1) := by decide +kernel
theorem dX11_isFirst_147 : decode cX11_isFirst 147 = .ok (.isub, 1) := by decide +kernel
theorem dX11_isFirst_148 : decode cX11_isFirst 148 = .ok (.aload_n 0, 1) := by decide +kernel
theorem dX11_isFirst_149 : decode cX11_isFirst 149 = .ok (.getfield 41, 3) := by decide +kernel
theorem dX11_isFirst_152 : decode cX11_isFirst 152 = .ok (.iload_n 2, 1) := by decide +kernel
theorem dX11_isFirst_153 : decode cX11_isFirst 153 = .ok (.iaload, 1) := by decide +kernel
theorem dX11_isFirst_154 : decode cX11_isFirst 154 = .ok (.isub, 1) := by decide +kernel
theorem dX11_isFirst_155 : decode cX11_isFirst 155 = .ok (.iload_n 3, 1) := by decide +kernel
theorem dX11_isFirst_156 : decode cX11_isFirst 156 = .ok (.isub, 1) := by decide +kernel
theorem dX11_isFirst_157 : decode cX11_isFirst 157 = .ok (.istore 4, 2) := by decide +kernel
theorem dX11_isFirst_159 : decode cX11_isFirst 159 = .ok (.goto 43, 3) := by decide +kernel
theorem dX11_isFirst_162 : decode cX11_isFirst 162 = .ok (.aload_n 0, 1) := by decide +kernel
theorem dX11_isFirst_163 : decode cX11_isFirst 163 = .ok (.getfield 7, 3) := by decide +kernel
theorem dX11_isFirst_166 : decode cX11_isFirst 166 = .ok (.bipush 11, 2) := by decide +kernel
theorem dX11_isFirst_168 : decode cX11_isFirst 168 = .ok (.iaload, 1) := by decide +kernel
theorem dX11_isFirst_169 : decode cX11_isFirst 169 = .ok (.iconst 3, 1) := by decide +kernel
theorem dX11_isFirst_170 : decode cX11_isFirst 170 = .ok (.if_icmp .ne 32, 3) := by decide +kernel
theorem dX11_isFirst_173 : decode cX11_isFirst 173 = .ok (.aload_n 0, 1) := by decide +kernel
theorem dX11_isFirst_174 : decode cX11_isFirst 174 = .ok (.getfield 41, 3) := by decide +kernel
theorem dX11_isFirst_177 : decode cX11_isFirst 177 = .ok (.iload_n 1, 1) := by decide +kernel
theorem dX11_isFirst_178 : decode cX11_isFirst 178 = .ok (.iaload, 1) := by decide +kernel
theorem dX11_isFirst_179 : decode cX11_isFirst 179 = .ok (.aload_n 0, 1) := by decide +kernel
theorem dX11_isFirst_180 : decode cX11_isFirst 180 = .ok (.getfield 41, 3) := by decide +kernel
theorem dX11_isFirst_183 : decode cX11_isFirst 183 = .ok (.iload_n 2, 1) := by decide +kernel
theorem dX11_isFirst_184 : decode cX11_isFirst 184 = .ok (.iaload, 1) := by decide +kernel
theorem dX11_isFirst_185 : decode cX11_isFirst 185 = .ok (.isub, 1) := by decide +kernel
theorem dX11_isFirst_186 : decode cX11_isFirst 186 = .ok (.istore_n 3, 1) := by decide +kernel
theorem dX11_isFirst_187 : decode cX11_isFirst 187 = .ok (.aload_n 0, 1) := by decide +kernel
theorem dX11_isFirst_188 : decode cX11_isFirst 188 = .ok (.getfield 38, 3) := by decide +kernel
theorem dX11_isFirst_191 : decode cX11_isFirst 191 = .ok (.iload_n 1, 1) := by decide +kernel
theorem dX11_isFirst_192 : decode cX11_isFirst 192 = .ok (.iaload, 1) := by decide +kernel
theorem dX11_isFirst_193 : decode cX11_isFirst 193 = .ok (.aload_n 0, 1) := by decide +kernel
theorem dX11_isFirst_194 : decode cX11_isFirst 194 = .ok (.getfield 38, 3) := by decide +kernel
theorem dX11_isFirst_197 : decode cX11_isFirst 197 = .ok (.iload_n 2, 1) := by decide +kernel
theorem dX11_isFirst_198 : decode cX11_isFirst 198 = .ok (.iaload, 1) := by decide +kernel
theorem dX11_isFirst_199 : decode cX11_isFirst 199 = .ok (.isub, 1) := by decide +kernel
theorem dX11_isFirst_200 : decode cX11_isFirst 200 = .ok (.istore 4, 2) := by decide +kernel
theorem dX11_isFirst_202 : decode cX11_isFirst 202 = .ok (.iload_n 3, 1) := by decide +kernel
theorem dX11_isFirst_203 : decode cX11_isFirst 203 = .ok (.ifCond .gt 12, 3) := by decide +kernel
theorem dX11_isFirst_206 : decode cX11_isFirst 206 = .ok (.iload_n 3, 1) := by decide +kernel
theorem dX11_isFirst_207 : decode cX11_isFirst 207 = .ok (.ifCond .ne 12, 3) := by decide +kernel
theorem dX11_isFirst_210 : decode cX11_isFirst 210 = .ok (.iload 4, 2) := by decide +kernel
theorem dX11_isFirst_212 : decode cX11_isFirst 212 = .ok (.ifCond .lt 7, 3) := by decide +kernel
theorem dX11_isFirst_215 : decode cX11_isFirst 215 = .ok (.iconst 1, 1) := by decide +kernel
theorem dX11_isFirst_216 : decode cX11_isFirst 216 = .ok (.goto 4, 3) := by decide +kernel
theorem dX11_isFirst_219 : decode cX11_isFirst 219 = .ok (.iconst 0, 1) := by decide +kernel
theorem dX11_isFirst_220 : decode cX11_isFirst 220 = .ok (.ireturn, 1) := by decide +kernel
theorem dX11_packs_0 : decode cX11_packs 0 = .ok (.aload_n 0, 1) := by decide +kernel
theorem dX11_packs_1 : decode cX11_packs 1 = .ok (.invokevirtual 101, 3) := by decide +kernel
theorem dX11_packs_4 : decode cX11_packs 4 = .ok (.iconst 0, 1) := by decide +kernel
theorem dX11_packs_5 : decode cX11_packs 5 = .ok (.istore_n 1, 1) := by decide +kernel
theorem dX11_packs_6 : decode cX11_packs 6 = .ok (.iconst 0, 1) := by decide +kernel
theorem dX11_packs_7 : decode cX11_packs 7 = .ok (.istore_n 2, 1) := by decide +kernel
theorem dX11_packs_8 : decode cX11_packs 8 = .ok (.iload_n 2, 1) := by decide +kernel
theorem dX11_packs_9 : decode cX11_packs 9 = .ok (.aload_n 0, 1) := by decide +kernel
theorem dX11_packs_10 : decode cX11_packs 10 = .ok (.getfield 7, 3) := by decide +kernel
theorem dX11_packs_13 : decode cX11_packs 13 = .ok (.iconst 0, 1) := by decide +kernel
theorem dX11_packs_14 : decode cX11_packs 14 = .ok (.iaload, 1) := by decide +kernel
theorem dX11_packs_15 : decode cX11_packs 15 = .ok (.if_icmp .ge 28, 3) := by decide +kernel
theorem dX11_packs_18 : decode cX11_packs 18 = .ok (.aload_n 0, 1) := by decide +kernel
theorem dX11_packs_19 : decode cX11_packs 19 = .ok (.getfield 80, 3) := by decide +kernel
theorem dX11_packs_22 : decode cX11_packs 22 = .ok (.iload_n 2, 1) := by decide +kernel
theorem dX11_packs_23 : decode cX11_packs 23 = .ok (.aload_n 0, 1) := by decide +kernel
theorem dX11_packs_24 : decode cX11_packs 24 = .ok (.iload_n 2, 1) := by decide +kernel
theorem dX11_packs_25 : decode cX11_packs 25 = .ok (.invokevirtual 248, 3) := by decide +kernel
theorem dX11_packs_28 : decode cX11_packs 28 = .ok (.ifCond .ne 7, 3) := by decide +kernel
theorem dX11_packs_31 : decode cX11_packs 31 = .ok (.iconst 1, 1) := by decide +kernel
theorem dX11_packs_32 : decode cX11_packs 32 = .ok (.goto 4, 3) := by decide +kernel
theorem dX11_packs_35 : decode cX11_packs 35 = .ok (.iconst 0, 1) := by decide +kernel
theorem dX11_packs_36 : decode cX11_packs 36 = .ok (.bastore, 1) := by decide +kernel
theorem dX11_packs_37 : decode cX11_packs 37 = .ok (.iinc 2 1, 3) := by decide +kernel
theorem dX11_packs_40 : decode cX11_packs 40 = .ok (.goto (-32), 3) := by decide +kernel
theorem dX11_packs_43 : decode cX11_packs 43 = .ok (.iconst 1, 1) := by decide +kernel
theorem dX11_packs_44 : decode cX11_packs 44 = .ok (.istore_n 2, 1) := by decide +kernel
theorem dX11_packs_45 : decode cX11_packs 45 = .ok (.iload_n 2, 1) := by decide +kernel
theorem dX11_packs_46 : decode cX11_packs 46 = .ok (.ifCond .eq 97, 3) := by decide +kernel
theorem dX11_packs_49 : decode cX11_packs 49 = .ok (.iconst (-1), 1) := by decide +kernel
theorem dX11_packs_50 : decode cX11_packs 50 = .ok (.istore_n 3, 1) := by decide +kernel
theorem dX11_packs_51 : decode cX11_packs 51 = .ok (.aload_n 0, 1) := by decide +kernel
theorem dX11_packs_52 : decode cX11_packs 52 = .ok (.getfield 7, 3) := by decide +kernel
theorem dX11_packs_55 : decode cX11_packs 55 = .ok (.iconst 0, 1) := by decide +kernel
theorem dX11_packs_56 : decode cX11_packs 56 = .ok (.iaload, 1) := by decide +kernel
theorem dX11_packs_57 : decode cX11_packs 57 = .ok (.iconst 1, 1) := by decide +kernel
theorem dX11_packs_58 : decode cX11_packs 58 = .ok (.isub, 1) := by decide +kernel
theorem dX11_packs_59 : decode cX11_packs 59 = .ok (.istore 4, 2) := by decide +kernel
theorem dX11_packs_61 : decode cX11_packs 61 = .ok (.iload 4, 2) := by decide +kernel
theorem dX11_packs_63 : decode cX11_packs 63 = .ok (.ifCond .lt 40, 3) := by decide +kernel
theorem dX11_packs_66 : decode cX11_packs 66 = .ok (.aload_n 0, 1) := by decide +kernel
theorem dX11_packs_67 : decode cX11_packs 67 = .ok (.getfield 80, 3) := by decide +kernel
theorem dX11_packs_70 : decode cX11_packs 70 = .ok (.iload 4, 2) := by decide +kernel
theorem dX11_packs_72 : decode cX11_packs 72 = .ok (.baload, 1) := by decide +kernel
theorem dX11_packs_73 : decode cX11_packs 73 = .ok (.ifCond .ne 22, 3) := by decide +kernel
theorem dX11_packs_76 : decode cX11_packs 76 = .ok (.iload_n 3, 1) := by decide +kernel
theorem dX11_packs_77 : decode cX11_packs 77 = .ok (.ifCond .lt 13, 3) := by decide +kernel
theorem dX11_packs_80 : decode cX11_packs 80 = .ok (.aload_n 0, 1) := by decide +kernel
theorem dX11_packs_81 : decode cX11_packs 81 = .ok (.iload 4, 2) := by decide +kernel
theorem dX11_packs_83 : decode cX11_packs 83 = .ok (.iload_n 3, 1) := by decide +kernel
theorem dX11_packs_84 : decode cX11_packs 84 = .ok (.invokevirtual 251, 3) := by decide +kernel
theorem dX11_packs_87 : decode cX11_packs 87 = .ok (.ifCond .eq 8, 3) := by decide +kernel
theorem dX11_packs_90 : decode cX11_packs 90 = .ok (.iload 4, 2) := by decide +kernel
theorem dX11_packs_92 : decode cX11_packs 92 = .ok (.goto 4, 3) := by decide +kernel
theorem dX11_packs_95 : decode cX11_packs 95 = .ok (.iload_n 3, 1) := by decide +kernel
theorem dX11_packs_96 : decode cX11_packs 96 = .ok (.istore_n 3, 1) := by decide +kernel
theorem dX11_packs_97 : decode cX11_packs 97 = .ok (.iinc 4 (-1), 3) := by decide +kernel
theorem dX11_packs_100 : decode cX11_packs 100 = .ok (.goto (-39), 3) := by decide +kernel
theorem dX11_packs_103 : decode cX11_packs 103 = .ok (.iload_n 3, 1) := by decide +kernel
theorem dX11_packs_104 : decode cX11_packs 104 = .ok (.ifCond .lt 7, 3) := by decide +kernel
theorem dX11_packs_107 : decode cX11_packs 107 = .ok (.iconst 1, 1) := by decide +kernel
theorem dX11_packs_108 : decode cX11_packs 108 = .ok (.goto 4, 3) := by decide +kernel
theorem dX11_packs_111 : decode cX11_packs 111 = .ok (.iconst 0, 1) := by decide +kernel
theorem dX11_packs_112 : decode cX11_packs 112 = .ok (.istore_n 2, 1) := by decide +kernel
theorem dX11_packs_113 : decode cX11_packs 113 = .ok (.iload_n 2, 1) := by decide +kernel
theorem dX11_packs_114 : decode cX11_packs 114 = .ok (.ifCond .eq 26, 3) := by decide +kernel
theorem dX11_packs_117 : decode cX11_packs 117 = .ok (.aload_n 0, 1) := by decide +kernel
theorem dX11_packs_118 : decode cX11_packs 118 = .ok (.getfield 80, 3) := by decide +kernel
theorem dX11_packs_121 : decode cX11_packs 121 = .ok (.iload_n 3, 1) := by decide +kernel
theorem dX11_packs_122 : decode cX11_packs 122 = .ok (.iconst 1, 1) := by decide +kernel
theorem dX11_packs_123 : decode cX11_packs 123 = .ok (.bastore, 1) := by decide +kernel
theorem dX11_packs_124 : decode cX11_packs 124 = .ok (.iload_n 1, 1) := by decide +kernel
theorem dX11_packs_125 : decode cX11_packs 125 = .ok (.aload_n 0, 1) := by decide +kernel
theorem dX11_packs_126 : decode cX11_packs 126 = .ok (.iload_n 3, 1) := by decide +kernel
theorem dX11_packs_127 : decode cX11_packs 127 = .ok (.invokevirtual 254, 3) := by decide +kernel
theorem dX11_packs_130 : decode cX11_packs 130 = .ok (.ifCond .eq 7, 3) := by decide +kernel
theorem dX11_packs_133 : decode cX11_packs 133 = .ok (.iconst 0, 1) := by decide +kernel
theorem dX11_packs_134 : decode cX11_packs 134 = .ok (.goto 4, 3) := by decide +kernel
theorem dX11_packs_137 : decode cX11_packs 137 = .ok (.iconst 1, 1) := by decide +kernel
theorem dX11_packs_138 : decode cX11_packs 138 = .ok (.iadd, 1) := by decide +kernel
theorem dX11_packs_139 : decode cX11_packs 139 = .ok (.istore_n 1, 1) := by decide +kernel
theorem dX11_packs_140 : decode cX11_packs 140 = .ok (.goto (-95), 3) := by decide +kernel
theorem dX11_packs_143 : decode cX11_packs 143 = .ok (.iload_n 1, 1) := by decide +kernel
theorem dX11_packs_144 : decode cX11_packs 144 = .ok (.ireturn, 1) := by decide +kernel
theorem dX11_pack_0 : decode cX11_pack 0 = .ok (.aload_n 0, 1) := by decide +kernel
theorem dX11_pack_1 : decode cX11_pack 1 = .ok (.invokevirtual 176, 3) := by decide +kernel
theorem dX11_pack_4 : decode cX11_pack 4 = .ok (.aload_n 0, 1) := by decide +kernel
theorem dX11_pack_5 : decode cX11_pack 5 = .ok (.invokevirtual 98, 3) := by decide +kernel
theorem dX11_pack_8 : decode cX11_pack 8 = .ok (.aload_n 0, 1) := by decide +kernel
theorem dX11_pack_9 : decode cX11_pack 9 = .ok (.invokevirtual 257, 3) := by decide +kernel
theorem dX11_pack_12 : decode cX11_pack 12 = .ok (.ireturn, 1) := by decide +kernel
theorem dX11_insert_0 : decode cX11_insert 0 = .ok (.aload_n 0, 1) := by decide +kernel
theorem dX11_insert_1 : decode cX11_insert 1 = .ok (.iload_n 1, 1) := by decide +kernel
theorem dX11_insert_2 : decode cX11_insert 2 = .ok (.invokevirtual 138, 3) := by decide +kernel
theorem dX11_insert_5 : decode cX11_insert 5 = .ok (.ifCond .ne 5, 3) := by decide +kernel
theorem dX11_insert_8 : decode cX11_insert 8 = .ok (.iconst (-1), 1) := by decide +kernel
theorem dX11_insert_9 : decode cX11_insert 9 = .ok (.ireturn, 1) := by decide +kernel
theorem dX11_insert_10 : decode cX11_insert 10 = .ok (.aload_n 0, 1) := by decide +kernel
theorem dX11_insert_11 : decode cX11_insert 11 = .ok (.invokevirtual 176, 3) := by decide +kernel
theorem dX11_insert_14 : decode cX11_insert 14 = .ok (.aload_n 0, 1) := by decide +kernel
theorem dX11_insert_15 : decode cX11_insert 15 = .ok (.iload_n 1, 1) := by decide +kernel
theorem dX11_insert_16 : decode cX11_insert 16 = .ok (.invokevirtual 248, 3) := by decide +kernel
theorem dX11_insert_19 : decode cX11_insert 19 = .ok (.ifCond .eq 16, 3) := by decide +kernel
theorem dX11_insert_22 : decode cX11_insert 22 = .ok (.aload_n 0, 1) := by decide +kernel
theorem dX11_insert_23 : decode cX11_insert 23 = .ok (.getfield 7, 3) := by decide +kernel
theorem dX11_insert_26 : decode cX11_insert 26 = .ok (.iload_n 1, 1) := by decide +kernel
theorem dX11_insert_27 : decode cX11_insert 27 = .ok (.iconst 3, 1) := by decide +kernel
theorem dX11_insert_28 : decode cX11_insert 28 = .ok (.invokestatic 94, 3) := by decide +kernel
theorem dX11_insert_31 : decode cX11_insert 31 = .ok (.iaload, 1) := by decide +kernel
theorem dX11_insert_32 : decode cX11_insert 32 = .ok (.ifCond .lt 6, 3) := by decide +kernel
theorem dX11_insert_35 : decode cX11_insert 35 = .ok (.bipush (-3), 2) := by decide +kernel
theorem dX11_insert_37 : decode cX11_insert 37 = .ok (.ireturn, 1) := by decide +kernel
theorem dX11_insert_38 : decode cX11_insert 38 = .ok (.aload_n 0, 1) := by decide +kernel
theorem dX11_insert_39 : decode cX11_insert 39 = .ok (.invokevirtual 260, 3) := by decide +kernel
theorem dX11_insert_42 : decode cX11_insert 42 = .ok (.aload_n 0, 1) := by decide +kernel
theorem dX11_insert_43 : decode cX11_insert 43 = .ok (.iload_n 1, 1) := by decide +kernel
theorem dX11_insert_44 : decode cX11_insert 44 = .ok (.invokevirtual 254, 3) := by decide +kernel
theorem dX11_insert_47 : decode cX11_insert 47 = .ok (.ifCond .ne 6, 3) := by decide +kernel
theorem dX11_insert_50 : decode cX11_insert 50 = .ok (.bipush (-2), 2) := by decide +kernel
theorem dX11_insert_52 : decode cX11_insert 52 = .ok (.ireturn, 1) := by decide +kernel
theorem dX11_insert_53 : decode cX11_insert 53 = .ok (.aload_n 0, 1) := by decide +kernel
theorem dX11_insert_54 : decode cX11_insert 54 = .ok (.getfield 7, 3) := by decide +kernel
theorem dX11_insert_57 : decode cX11_insert 57 = .ok (.iload_n 1, 1) := by decide +kernel
theorem dX11_insert_58 : decode cX11_insert 58 = .ok (.iconst 3, 1) := by decide +kernel
theorem dX11_insert_59 : decode cX11_insert 59 = .ok (.invokestatic 94, 3) := by decide +kernel
theorem dX11_insert_62 : decode cX11_insert 62 = .ok (.iaload, 1) := by decide +kernel
theorem dX11_insert_63 : decode cX11_insert 63 = .ok (.istore_n 2, 1) := by decide +kernel
theorem dX11_insert_64 : decode cX11_insert 64 = .ok (.aload_n 0, 1) := by decide +kernel
theorem dX11_insert_65 : decode cX11_insert 65 = .ok (.getfield 7, 3) := by decide +kernel
theorem dX11_insert_68 : decode cX11_insert 68 = .ok (.bipush 13, 2) := by decide +kernel
theorem dX11_insert_70 : decode cX11_insert 70 = .ok (.iaload, 1) := by decide +kernel
theorem dX11_insert_71 : decode cX11_insert 71 = .ok (.istore_n 3, 1) := by decide +kernel
theorem dX11_insert_72 : decode cX11_insert 72 = .ok (.aload_n 0, 1) := by decide +kernel
theorem dX11_insert_73 : decode cX11_insert 73 = .ok (.getfield 7, 3) := by decide +kernel
theorem dX11_insert_76 : decode cX11_insert 76 = .ok (.bipush 14, 2) := by decide +kernel
theorem dX11_insert_78 : decode cX11_insert 78 = .ok (.iload_n 2, 1) := by decide +kernel
theorem dX11_insert_79 : decode cX11_insert 79 = .ok (.iadd, 1) := by decide +kernel
theorem dX11_insert_80 : decode cX11_insert 80 = .ok (.iaload, 1) := by decide +kernel
theorem dX11_insert_81 : decode cX11_insert 81 = .ok (.istore 4, 2) := by decide +kernel
theorem dX11_insert_83 : decode cX11_insert 83 = .ok (.aload_n 0, 1) := by decide +kernel
theorem dX11_insert_84 : decode cX11_insert 84 = .ok (.iload_n 1, 1) := by decide +kernel
theorem dX11_insert_85 : decode cX11_insert 85 = .ok (.iconst 1, 1) := by decide +kernel
theorem dX11_insert_86 : decode cX11_insert 86 = .ok (.invokevirtual 263, 3) := by decide +kernel
theorem dX11_insert_89 : decode cX11_insert 89 = .ok (.aload_n 0, 1) := by decide +kernel
theorem dX11_insert_90 : decode cX11_insert 90 = .ok (.invokevirtual 267, 3) := by decide +kernel
theorem dX11_insert_93 : decode cX11_insert 93 = .ok (.aload_n 0, 1) := by decide +kernel
theorem dX11_insert_94 : decode cX11_insert 94 = .ok (.invokevirtual 98, 3) := by decide +kernel
theorem dX11_insert_97 : decode cX11_insert 97 = .ok (.aload_n 0, 1) := by decide +kernel
theorem dX11_insert_98 : decode cX11_insert 98 = .ok (.getfield 7, 3) := by decide +kernel
theorem dX11_insert_101 : decode cX11_insert 101 = .ok (.bipush 13, 2) := by decide +kernel
theorem dX11_insert_103 : decode cX11_insert 103 = .ok (.iload_n 3, 1) := by decide +kernel
theorem dX11_insert_104 : decode cX11_insert 104 = .ok (.iastore, 1) := by decide +kernel
theorem dX11_insert_105 : decode cX11_insert 105 = .ok (.aload_n 0, 1) := by decide +kernel
theorem dX11_insert_106 : decode cX11_insert 106 = .ok (.getfield 7, 3) := by decide +kernel
theorem dX11_insert_109 : decode cX11_insert 109 = .ok (.bipush 14, 2) := by decide +kernel
theorem dX11_insert_111 : decode cX11_insert 111 = .ok (.iload_n 2, 1) := by decide +kernel
theorem dX11_insert_112 : decode cX11_insert 112 = .ok (.iadd, 1) := by decide +kernel
theorem dX11_insert_113 : decode cX11_insert 113 = .ok (.iload 4, 2) := by decide +kernel
theorem dX11_insert_115 : decode cX11_insert 115 = .ok (.iastore, 1) := by decide +kernel
theorem dX11_insert_116 : decode cX11_insert 116 = .ok (.aload_n 0, 1) := by decide +kernel
theorem dX11_insert_117 : decode cX11_insert 117 = .ok (.iload_n 1, 1) := by decide +kernel
theorem dX11_insert_118 : decode cX11_insert 118 = .ok (.iconst 0, 1) := by decide +kernel
theorem dX11_insert_119 : decode cX11_insert 119 = .ok (.invokevirtual 263, 3) := by decide +kernel
theorem dX11_insert_122 : decode cX11_insert 122 = .ok (.iload_n 2, 1) := by decide +kernel
theorem dX11_insert_123 : decode cX11_insert 123 = .ok (.ireturn, 1) := by decide +kernel
theorem dX11_copies_0 : decode cX11_copies 0 = .ok (.iconst 0, 1) := by decide +kernel
theorem dX11_copies_1 : decode cX11_copies 1 = .ok (.istore_n 3, 1) := by decide +kernel
theorem dX11_copies_2 : decode cX11_copies 2 = .ok (.iload_n 3, 1) := by decide +kernel
theorem dX11_copies_3 : decode cX11_copies 3 = .ok (.iconst 4, 1) := by decide +kernel
theorem dX11_copies_4 : decode cX11_copies 4 = .ok (.if_icmp .ge 52, 3) := by decide +kernel
theorem dX11_copies_7 : decode cX11_copies 7 = .ok (.iload_n 2, 1) := by decide +kernel
theorem dX11_copies_8 : decode cX11_copies 8 = .ok (.ifCond .eq 24, 3) := by decide +kernel
theorem dX11_copies_11 : decode cX11_copies 11 = .ok (.aload_n 0, 1) := by decide +kernel
theorem dX11_copies_12 : decode cX11_copies 12 = .ok (.getfield 83, 3) := by decide +kernel
theorem dX11_copies_15 : decode cX11_copies 15 = .ok (.iload_n 3, 1) := by decide +kernel
theorem dX11_copies_16 : decode cX11_copies 16 = .ok (.aload_n 0, 1) := by decide +kernel
theorem dX11_copies_17 : decode cX11_copies 17 = .ok (.getfield 7, 3) := by decide +kernel
theorem dX11_copies_20 : decode cX11_copies 20 = .ok (.iload_n 1, 1) := by decide +kernel
theorem dX11_copies_21 : decode cX11_copies 21 = .ok (.iconst 3, 1) := by decide +kernel
theorem dX11_copies_22 : decode cX11_copies 22 = .ok (.iload_n 3, 1) := by decide +kernel
theorem dX11_copies_23 : decode cX11_copies 23 = .ok (.iadd, 1) := by decide +kernel
theorem dX11_copies_24 : decode cX11_copies 24 = .ok (.invokestatic 94, 3) := by decide +kernel
theorem dX11_copies_27 : decode cX11_copies 27 = .ok (.iaload, 1) := by decide +kernel
theorem dX11_copies_28 : decode cX11_copies 28 = .ok (.iastore, 1) := by decide +kernel
theorem dX11_copies_29 : decode cX11_copies 29 = .ok (.goto 21, 3) := by decide +kernel
theorem dX11_copies_32 : decode cX11_copies 32 = .ok (.aload_n 0, 1) := by decide +kernel
theorem dX11_copies_33 : decode cX11_copies 33 = .ok (.getfield 7, 3) := by decide +kernel
theorem dX11_copies_36 : decode cX11_copies 36 = .ok (.iload_n 1, 1) := by decide +kernel
theorem dX11_copies_37 : decode cX11_copies 37 = .ok (.iconst 3, 1) := by decide +kernel
theorem dX11_copies_38 : decode cX11_copies 38 = .ok (.iload_n 3, 1) := by decide +kernel
theorem dX11_copies_39 : decode cX11_copies 39 = .ok (.iadd, 1) := by decide +kernel
theorem dX11_copies_40 : decode cX11_copies 40 = .ok (.invokestatic 94, 3) := by decide +kernel
theorem dX11_copies_43 : decode cX11_copies 43 = .ok (.aload_n 0, 1) := by decide +kernel
theorem dX11_copies_44 : decode cX11_copies 44 = .ok (.getfield 83, 3) := by decide +kernel
theorem dX11_copies_47 : decode cX11_copies 47 = .ok (.iload_n 3, 1) := by decide +kernel
theorem dX11_copies_48 : decode cX11_copies 48 = .ok (.iaload, 1) := by decide +kernel
theorem dX11_copies_49 : decode cX11_copies 49 = .ok (.iastore, 1) := by decide +kernel
theorem dX11_copies_50 : decode cX11_copies 50 = .ok (.iinc 3 1, 3) := by decide +kernel
theorem dX11_copies_53 : decode cX11_copies 53 = .ok (.goto (-51), 3) := by decide +kernel
theorem dX11_copies_56 : decode cX11_copies 56 = .ok (.return_, 1) := by decide +kernel
theorem dX11_keeps_0 : decode cX11_keeps 0 = .ok (.iconst 0, 1) := by decide +kernel
theorem dX11_keeps_1 : decode cX11_keeps 1 = .ok (.istore_n 1, 1) := by decide +kernel
theorem dX11_keeps_2 : decode cX11_keeps 2 = .ok (.iload_n 1, 1) := by decide +kernel
theorem dX11_keeps_3 : decode cX11_keeps 3 = .ok (.sipush 1748, 3) := by decide +kernel
theorem dX11_keeps_6 : decode cX11_keeps 6 = .ok (.if_icmp .ge 21, 3) := by decide +kernel
theorem dX11_keeps_9 : decode cX11_keeps 9 = .ok (.aload_n 0, 1) := by decide +kernel
theorem dX11_keeps_10 : decode cX11_keeps 10 = .ok (.getfield 13, 3) := by decide +kernel
theorem dX11_keeps_13 : decode cX11_keeps 13 = .ok (.iload_n 1, 1) := by decide +kernel
theorem dX11_keeps_14 : decode cX11_keeps 14 = .ok (.aload_n 0, 1) := by decide +kernel
theorem dX11_keeps_15 : decode cX11_keeps 15 = .ok (.getfield 7, 3) := by decide +kernel
theorem dX11_keeps_18 : decode cX11_keeps 18 = .ok (.iload_n 1, 1) := by decide +kernel
theorem dX11_keeps_19 : decode cX11_keeps 19 = .ok (.iaload, 1) := by decide +kernel
theorem dX11_keeps_20 : decode cX11_keeps 20 = .ok (.iastore, 1) := by decide +kernel
theorem dX11_keeps_21 : decode cX11_keeps 21 = .ok (.iinc 1 1, 3) := by decide +kernel
theorem dX11_keeps_24 : decode cX11_keeps 24 = .ok (.goto (-22), 3) := by decide +kernel
theorem dX11_keeps_27 : decode cX11_keeps 27 = .ok (.return_, 1) := by decide +kernel
theorem dX11_brings_0 : decode cX11_brings 0 = .ok (.iconst 0, 1) := by decide +kernel
theorem dX11_brings_1 : decode cX11_brings 1 = .ok (.istore_n 1, 1) := by decide +kernel
theorem dX11_brings_2 : decode cX11_brings 2 = .ok (.iload_n 1, 1) := by decide +kernel
theorem dX11_brings_3 : decode cX11_brings 3 = .ok (.sipush 1748, 3) := by decide +kernel
theorem dX11_brings_6 : decode cX11_brings 6 = .ok (.if_icmp .ge 21, 3) := by decide +kernel
theorem dX11_brings_9 : decode cX11_brings 9 = .ok (.aload_n 0, 1) := by decide +kernel
theorem dX11_brings_10 : decode cX11_brings 10 = .ok (.getfield 7, 3) := by decide +kernel
theorem dX11_brings_13 : decode cX11_brings 13 = .ok (.iload_n 1, 1) := by decide +kernel
theorem dX11_brings_14 : decode cX11_brings 14 = .ok (.aload_n 0, 1) := by decide +kernel
theorem dX11_brings_15 : decode cX11_brings 15 = .ok (.getfield 13, 3) := by decide +kernel
theorem dX11_brings_18 : decode cX11_brings 18 = .ok (.iload_n 1, 1) := by decide +kernel
theorem dX11_brings_19 : decode cX11_brings 19 = .ok (.iaload, 1) := by decide +kernel
theorem dX11_brings_20 : decode cX11_brings 20 = .ok (.iastore, 1) := by decide +kernel
theorem dX11_brings_21 : decode cX11_brings 21 = .ok (.iinc 1 1, 3) := by decide +kernel
theorem dX11_brings_24 : decode cX11_brings 24 = .ok (.goto (-22), 3) := by decide +kernel
theorem dX11_brings_27 : decode cX11_brings 27 = .ok (.return_, 1) := by decide +kernel
theorem dX11_unplace_0 : decode cX11_unplace 0 = .ok (.aload_n 0, 1) := by decide +kernel
theorem dX11_unplace_1 : decode cX11_unplace 1 = .ok (.iload_n 1, 1) := by decide +kernel
theorem dX11_unplace_2 : decode cX11_unplace 2 = .ok (.invokevirtual 138, 3) := by decide +kernel
theorem dX11_unplace_5 : decode cX11_unplace 5 = .ok (.ifCond .ne 5, 3) := by decide +kernel
theorem dX11_unplace_8 : decode cX11_unplace 8 = .ok (.iconst (-1), 1) := by decide +kernel
theorem dX11_unplace_9 : decode cX11_unplace 9 = .ok (.ireturn, 1) := by decide +kernel
theorem dX11_unplace_10 : decode cX11_unplace 10 = .ok (.aload_n 0, 1) := by decide +kernel
theorem dX11_unplace_11 : decode cX11_unplace 11 = .ok (.invokevirtual 176, 3) := by decide +kernel
theorem dX11_unplace_14 : decode cX11_unplace 14 = .ok (.aload_n 0, 1) := by decide +kernel
theorem dX11_unplace_15 : decode cX11_unplace 15 = .ok (.getfield 7, 3) := by decide +kernel
theorem dX11_unplace_18 : decode cX11_unplace 18 = .ok (.iload_n 1, 1) := by decide +kernel
theorem dX11_unplace_19 : decode cX11_unplace 19 = .ok (.iconst 3, 1) := by decide +kernel
theorem dX11_unplace_20 : decode cX11_unplace 20 = .ok (.invokestatic 94, 3) := by decide +kernel
theorem dX11_unplace_23 : decode cX11_unplace 23 = .ok (.iaload, 1) := by decide +kernel
theorem dX11_unplace_24 : decode cX11_unplace 24 = .ok (.istore_n 2, 1) := by decide +kernel
theorem dX11_unplace_25 : decode cX11_unplace 25 = .ok (.aload_n 0, 1) := by decide +kernel
theorem dX11_unplace_26 : decode cX11_unplace 26 = .ok (.iload_n 1, 1) := by decide +kernel
theorem dX11_unplace_27 : decode cX11_unplace 27 = .ok (.invokevirtual 248, 3) := by decide +kernel
theorem dX11_unplace_30 : decode cX11_unplace 30 = .ok (.ifCond .eq 7, 3) := by decide +kernel
theorem dX11_unplace_33 : decode cX11_unplace 33 = .ok (.iload_n 2, 1) := by decide +kernel
theorem dX11_unplace_34 : decode cX11_unplace 34 = .ok (.ifCond .ge 6, 3) := by decide +kernel
theorem dX11_unplace_37 : decode cX11_unplace 37 = .ok (.bipush (-3), 2) := by decide +kernel
theorem dX11_unplace_39 : decode cX11_unplace 39 = .ok (.ireturn, 1) := by decide +kernel
theorem dX11_unplace_40 : decode cX11_unplace 40 = .ok (.aload_n 0, 1) := by decide +kernel
theorem dX11_unplace_41 : decode cX11_unplace 41 = .ok (.invokevirtual 98, 3) := by decide +kernel
theorem dX11_unplace_44 : decode cX11_unplace 44 = .ok (.aload_n 0, 1) := by decide +kernel
theorem dX11_unplace_45 : decode cX11_unplace 45 = .ok (.getfield 7, 3) := by decide +kernel
theorem dX11_unplace_48 : decode cX11_unplace 48 = .ok (.iload_n 1, 1) := by decide +kernel
theorem dX11_unplace_49 : decode cX11_unplace 49 = .ok (.iconst 3, 1) := by decide +kernel
theorem dX11_unplace_50 : decode cX11_unplace 50 = .ok (.invokestatic 94, 3) := by decide +kernel
theorem dX11_unplace_53 : decode cX11_unplace 53 = .ok (.iconst (-1), 1) := by decide +kernel
theorem dX11_unplace_54 : decode cX11_unplace 54 = .ok (.iastore, 1) := by decide +kernel
theorem dX11_unplace_55 : decode cX11_unplace 55 = .ok (.iload_n 2, 1) := by decide +kernel
theorem dX11_unplace_56 : decode cX11_unplace 56 = .ok (.ireturn, 1) := by decide +kernel
theorem dX11_holder_0 : decode cX11_holder 0 = .ok (.aload_n 0, 1) := by decide +kernel
theorem dX11_holder_1 : decode cX11_holder 1 = .ok (.invokevirtual 176, 3) := by decide +kernel
theorem dX11_holder_4 : decode cX11_holder 4 = .ok (.aload_n 0, 1) := by decide +kernel
theorem dX11_holder_5 : decode cX11_holder 5 = .ok (.getfield 44, 3) := by decide +kernel
theorem dX11_holder_8 : decode cX11_holder 8 = .ok (.iload_n 1, 1) := by decide +kernel
theorem dX11_holder_9 : decode cX11_holder 9 = .ok (.iaload, 1) := by decide +kernel
theorem dX11_holder_10 : decode cX11_holder 10 = .ok (.ifCond .ge 7, 3) := by decide +kernel
theorem dX11_holder_13 : decode cX11_holder 13 = .ok (.iload_n 1, 1) := by decide +kernel
theorem dX11_holder_14 : decode cX11_holder 14 = .ok (.goto 9, 3) := by decide +kernel
theorem dX11_holder_17 : decode cX11_holder 17 = .ok (.aload_n 0, 1) := by decide +kernel
theorem dX11_holder_18 : decode cX11_holder 18 = .ok (.getfield 44, 3) := by decide +kernel
theorem dX11_holder_21 : decode cX11_holder 21 = .ok (.iload_n 1, 1) := by decide +kernel
theorem dX11_holder_22 : decode cX11_holder 22 = .ok (.iaload, 1) := by decide +kernel
theorem dX11_holder_23 : decode cX11_holder 23 = .ok (.istore_n 2, 1) := by decide +kernel
theorem dX11_holder_24 : decode cX11_holder 24 = .ok (.aload_n 0, 1) := by decide +kernel
theorem dX11_holder_25 : decode cX11_holder 25 = .ok (.getfield 38, 3) := by decide +kernel
theorem dX11_holder_28 : decode cX11_holder 28 = .ok (.iload_n 2, 1) := by decide +kernel
theorem dX11_holder_29 : decode cX11_holder 29 = .ok (.iaload, 1) := by decide +kernel
theorem dX11_holder_30 : decode cX11_holder 30 = .ok (.ifCond .le 20, 3) := by decide +kernel
theorem dX11_holder_33 : decode cX11_holder 33 = .ok (.aload_n 0, 1) := by decide +kernel
theorem dX11_holder_34 : decode cX11_holder 34 = .ok (.getfield 7, 3) := by decide +kernel
theorem dX11_holder_37 : decode cX11_holder 37 = .ok (.iload_n 2, 1) := by decide +kernel
theorem dX11_holder_38 : decode cX11_holder 38 = .ok (.iconst 3, 1) := by decide +kernel
theorem dX11_holder_39 : decode cX11_holder 39 = .ok (.invokestatic 94, 3) := by decide +kernel
theorem dX11_holder_42 : decode cX11_holder 42 = .ok (.iaload, 1) := by decide +kernel
theorem dX11_holder_43 : decode cX11_holder 43 = .ok (.ifCond .lt 7, 3) := by decide +kernel
theorem dX11_holder_46 : decode cX11_holder 46 = .ok (.iload_n 2, 1) := by decide +kernel
theorem dX11_holder_47 : decode cX11_holder 47 = .ok (.goto 4, 3) := by decide +kernel
theorem dX11_holder_50 : decode cX11_holder 50 = .ok (.iconst (-1), 1) := by decide +kernel
theorem dX11_holder_51 : decode cX11_holder 51 = .ok (.ireturn, 1) := by decide +kernel
theorem dX11_pageOf_0 : decode cX11_pageOf 0 = .ok (.aload_n 0, 1) := by decide +kernel
theorem dX11_pageOf_1 : decode cX11_pageOf 1 = .ok (.iload_n 1, 1) := by decide +kernel
theorem dX11_pageOf_2 : decode cX11_pageOf 2 = .ok (.invokevirtual 138, 3) := by decide +kernel
theorem dX11_pageOf_5 : decode cX11_pageOf 5 = .ok (.ifCond .eq 11, 3) := by decide +kernel
theorem dX11_pageOf_8 : decode cX11_pageOf 8 = .ok (.aload_n 0, 1) := by decide +kernel
theorem dX11_pageOf_9 : decode cX11_pageOf 9 = .ok (.iload_n 1, 1) := by decide +kernel
theorem dX11_pageOf_10 : decode cX11_pageOf 10 = .ok (.invokevirtual 270, 3) := by decide +kernel
theorem dX11_pageOf_13 : decode cX11_pageOf 13 = .ok (.goto 5, 3) := by decide +kernel
theorem dX11_pageOf_16 : decode cX11_pageOf 16 = .ok (.bipush (-2), 2) := by decide +kernel
theorem dX11_pageOf_18 : decode cX11_pageOf 18 = .ok (.istore_n 2, 1) := by decide +kernel
theorem dX11_pageOf_19 : decode cX11_pageOf 19 = .ok (.iload_n 2, 1) := by decide +kernel
theorem dX11_pageOf_20 : decode cX11_pageOf 20 = .ok (.bipush (-2), 2) := by decide +kernel
theorem dX11_pageOf_22 : decode cX11_pageOf 22 = .ok (.if_icmp .ne 7, 3) := by decide +kernel
theorem dX11_pageOf_25 : decode cX11_pageOf 25 = .ok (.iconst (-1), 1) := by decide +kernel
theorem dX11_pageOf_26 : decode cX11_pageOf 26 = .ok (.goto 22, 3) := by decide +kernel
theorem dX11_pageOf_29 : decode cX11_pageOf 29 = .ok (.iload_n 2, 1) := by decide +kernel
theorem dX11_pageOf_30 : decode cX11_pageOf 30 = .ok (.ifCond .ge 8, 3) := by decide +kernel
theorem dX11_pageOf_33 : decode cX11_pageOf 33 = .ok (.bipush (-4), 2) := by decide +kernel
theorem dX11_pageOf_35 : decode cX11_pageOf 35 = .ok (.goto 13, 3) := by decide +kernel
theorem dX11_pageOf_38 : decode cX11_pageOf 38 = .ok (.aload_n 0, 1) := by decide +kernel
theorem dX11_pageOf_39 : decode cX11_pageOf 39 = .ok (.getfield 7, 3) := by decide +kernel
theorem dX11_pageOf_42 : decode cX11_pageOf 42 = .ok (.iload_n 2, 1) := by decide +kernel
theorem dX11_pageOf_43 : decode cX11_pageOf 43 = .ok (.iconst 3, 1) := by decide +kernel
theorem dX11_pageOf_44 : decode cX11_pageOf 44 = .ok (.invokestatic 94, 3) := by decide +kernel
theorem dX11_pageOf_47 : decode cX11_pageOf 47 = .ok (.iaload, 1) := by decide +kernel
theorem dX11_pageOf_48 : decode cX11_pageOf 48 = .ok (.ireturn, 1) := by decide +kernel
theorem dX11_columnOf_0 : decode cX11_columnOf 0 = .ok (.aload_n 0, 1) := by decide +kernel
theorem dX11_columnOf_1 : decode cX11_columnOf 1 = .ok (.getfield 7, 3) := by decide +kernel
theorem dX11_columnOf_4 : decode cX11_columnOf 4 = .ok (.iload_n 1, 1) := by decide +kernel
theorem dX11_columnOf_5 : decode cX11_columnOf 5 = .ok (.iconst 4, 1) := by decide +kernel
theorem dX11_columnOf_6 : decode cX11_columnOf 6 = .ok (.invokestatic 94, 3) := by decide +kernel
theorem dX11_columnOf_9 : decode cX11_columnOf 9 = .ok (.iaload, 1) := by decide +kernel
theorem dX11_columnOf_10 : decode cX11_columnOf 10 = .ok (.aload_n 0, 1) := by decide +kernel
theorem dX11_columnOf_11 : decode cX11_columnOf 11 = .ok (.getfield 7, 3) := by decide +kernel
theorem dX11_columnOf_14 : decode cX11_columnOf 14 = .ok (.iconst 5, 1) := by decide +kernel
theorem dX11_columnOf_15 : decode cX11_columnOf 15 = .ok (.iaload, 1) := by decide +kernel
theorem dX11_columnOf_16 : decode cX11_columnOf 16 = .ok (.iadd, 1) := by decide +kernel
theorem dX11_columnOf_17 : decode cX11_columnOf 17 = .ok (.aload_n 0, 1) := by decide +kernel
theorem dX11_columnOf_18 : decode cX11_columnOf 18 = .ok (.getfield 7, 3) := by decide +kernel
theorem dX11_columnOf_21 : decode cX11_columnOf 21 = .ok (.bipush 6, 2) := by decide +kernel
theorem dX11_columnOf_23 : decode cX11_columnOf 23 = .ok (.iaload, 1) := by decide +kernel
theorem dX11_columnOf_24 : decode cX11_columnOf 24 = .ok (.iadd, 1) := by decide +kernel
theorem dX11_columnOf_25 : decode cX11_columnOf 25 = .ok (.ireturn, 1) := by decide +kernel
theorem dX11_rowOf_0 : decode cX11_rowOf 0 = .ok (.aload_n 0, 1) := by decide +kernel
theorem dX11_rowOf_1 : decode cX11_rowOf 1 = .ok (.getfield 7, 3) := by decide +kernel
theorem dX11_rowOf_4 : decode cX11_rowOf 4 = .ok (.iload_n 1, 1) := by decide +kernel
theorem dX11_rowOf_5 : decode cX11_rowOf 5 = .ok (.iconst 5, 1) := by decide +kernel
theorem dX11_rowOf_6 : decode cX11_rowOf 6 = .ok (.invokestatic 94, 3) := by decide +kernel
theorem dX11_rowOf_9 : decode cX11_rowOf 9 = .ok (.iaload, 1) := by decide +kernel
theorem dX11_rowOf_10 : decode cX11_rowOf 10 = .ok (.aload_n 0, 1) := by decide +kernel
theorem dX11_rowOf_11 : decode cX11_rowOf 11 = .ok (.getfield 7, 3) := by decide +kernel
theorem dX11_rowOf_14 : decode cX11_rowOf 14 = .ok (.iconst 5, 1) := by decide +kernel
theorem dX11_rowOf_15 : decode cX11_rowOf 15 = .ok (.iaload, 1) := by decide +kernel
theorem dX11_rowOf_16 : decode cX11_rowOf 16 = .ok (.iadd, 1) := by decide +kernel
theorem dX11_rowOf_17 : decode cX11_rowOf 17 = .ok (.aload_n 0, 1) := by decide +kernel
theorem dX11_rowOf_18 : decode cX11_rowOf 18 = .ok (.getfield 7, 3) := by decide +kernel
theorem dX11_rowOf_21 : decode cX11_rowOf 21 = .ok (.bipush 6, 2) := by decide +kernel
theorem dX11_rowOf_23 : decode cX11_rowOf 23 = .ok (.iaload, 1) := by decide +kernel
theorem dX11_rowOf_24 : decode cX11_rowOf 24 = .ok (.iadd, 1) := by decide +kernel
theorem dX11_rowOf_25 : decode cX11_rowOf 25 = .ok (.ireturn, 1) := by decide +kernel
theorem dX11_xOf_0 : decode cX11_xOf 0 = .ok (.aload_n 0, 1) := by decide +kernel
theorem dX11_xOf_1 : decode cX11_xOf 1 = .ok (.iload_n 1, 1) := by decide +kernel
theorem dX11_xOf_2 : decode cX11_xOf 2 = .ok (.invokevirtual 138, 3) := by decide +kernel
theorem dX11_xOf_5 : decode cX11_xOf 5 = .ok (.ifCond .eq 11, 3) := by decide +kernel
theorem dX11_xOf_8 : decode cX11_xOf 8 = .ok (.aload_n 0, 1) := by decide +kernel
theorem dX11_xOf_9 : decode cX11_xOf 9 = .ok (.iload_n 1, 1) := by decide +kernel
theorem dX11_xOf_10 : decode cX11_xOf 10 = .ok (.invokevirtual 270, 3) := by decide +kernel
theorem dX11_xOf_13 : decode cX11_xOf 13 = .ok (.goto 5, 3) := by decide +kernel
theorem dX11_xOf_16 : decode cX11_xOf 16 = .ok (.bipush (-2), 2) := by decide +kernel
theorem dX11_xOf_18 : decode cX11_xOf 18 = .ok (.istore_n 2, 1) := by decide +kernel
theorem dX11_xOf_19 : decode cX11_xOf 19 = .ok (.iload_n 2, 1) := by decide +kernel
theorem dX11_xOf_20 : decode cX11_xOf 20 = .ok (.bipush (-2), 2) := by decide +kernel
theorem dX11_xOf_22 : decode cX11_xOf 22 = .ok (.if_icmp .ne 7, 3) := by decide +kernel
theorem dX11_xOf_25 : decode cX11_xOf 25 = .ok (.iconst (-1), 1) := by decide +kernel
theorem dX11_xOf_26 : decode cX11_xOf 26 = .ok (.goto 17, 3) := by decide +kernel
theorem dX11_xOf_29 : decode cX11_xOf 29 = .ok (.iload_n 2, 1) := by decide +kernel
theorem dX11_xOf_30 : decode cX11_xOf 30 = .ok (.ifCond .ge 8, 3) := by decide +kernel
theorem dX11_xOf_33 : decode cX11_xOf 33 = .ok (.bipush (-4), 2) := by decide +kernel
theorem dX11_xOf_35 : decode cX11_xOf 35 = .ok (.goto 8, 3) := by decide +kernel
theorem dX11_xOf_38 : decode cX11_xOf 38 = .ok (.aload_n 0, 1) := by decide +kernel
theorem dX11_xOf_39 : decode cX11_xOf 39 = .ok (.iload_n 2, 1) := by decide +kernel
theorem dX11_xOf_40 : decode cX11_xOf 40 = .ok (.invokevirtual 273, 3) := by decide +kernel
theorem dX11_xOf_43 : decode cX11_xOf 43 = .ok (.ireturn, 1) := by decide +kernel
theorem dX11_yOf_0 : decode cX11_yOf 0 = .ok (.aload_n 0, 1) := by decide +kernel
theorem dX11_yOf_1 : decode cX11_yOf 1 = .ok (.iload_n 1, 1) := by decide +kernel
theorem dX11_yOf_2 : decode cX11_yOf 2 = .ok (.invokevirtual 138, 3) := by decide +kernel
theorem dX11_yOf_5 : decode cX11_yOf 5 = .ok (.ifCond .eq 11, 3) := by decide +kernel
theorem dX11_yOf_8 : decode cX11_yOf 8 = .ok (.aload_n 0, 1) := by decide +kernel
theorem dX11_yOf_9 : decode cX11_yOf 9 = .ok (.iload_n 1, 1) := by decide +kernel
theorem dX11_yOf_10 : decode cX11_yOf 10 = .ok (.invokevirtual 270, 3) := by decide +kernel
theorem dX11_yOf_13 : decode cX11_yOf 13 = .ok (.goto 5, 3) := by decide +kernel
theorem dX11_yOf_16 : decode cX11_yOf 16 = .ok (.bipush (-2), 2) := by decide +kernel
theorem dX11_yOf_18 : decode cX11_yOf 18 = .ok (.istore_n 2, 1) := by decide +kernel
theorem dX11_yOf_19 : decode cX11_yOf 19 = .ok (.iload_n 2, 1) := by decide +kernel
theorem dX11_yOf_20 : decode cX11_yOf 20 = .ok (.bipush (-2), 2) := by decide +kernel
theorem dX11_yOf_22 : decode cX11_yOf 22 = .ok (.if_icmp .ne 7, 3) := by decide +kernel
theorem dX11_yOf_25 : decode cX11_yOf 25 = .ok (.iconst (-1), 1) := by decide +kernel
theorem dX11_yOf_26 : decode cX11_yOf 26 = .ok (.goto 17, 3) := by decide +kernel
theorem dX11_yOf_29 : decode cX11_yOf 29 = .ok (.iload_n 2, 1) := by decide +kernel
theorem dX11_yOf_30 : decode cX11_yOf 30 = .ok (.ifCond .ge 8, 3) := by decide +kernel
theorem dX11_yOf_33 : decode cX11_yOf 33 = .ok (.bipush (-4), 2) := by decide +kernel
theorem dX11_yOf_35 : decode cX11_yOf 35 = .ok (.goto 8, 3) := by decide +kernel
theorem dX11_yOf_38 : decode cX11_yOf 38 = .ok (.aload_n 0, 1) := by decide +kernel
theorem dX11_yOf_39 : decode cX11_yOf 39 = .ok (.iload_n 2, 1) := by decide +kernel
theorem dX11_yOf_40 : decode cX11_yOf 40 = .ok (.invokevirtual 276, 3) := by decide +kernel
theorem dX11_yOf_43 : decode cX11_yOf 43 = .ok (.ireturn, 1) := by decide +kernel
theorem dX11_isTurned_0 : decode cX11_isTurned 0 = .ok (.aload_n 0, 1) := by decide +kernel
theorem dX11_isTurned_1 : decode cX11_isTurned 1 = .ok (.iload_n 1, 1) := by decide +kernel
theorem dX11_isTurned_2 : decode cX11_isTurned 2 = .ok (.invokevirtual 138, 3) := by decide +kernel
theorem dX11_isTurned_5 : decode cX11_isTurned 5 = .ok (.ifCond .eq 11, 3) := by decide +kernel
theorem dX11_isTurned_8 : decode cX11_isTurned 8 = .ok (.aload_n 0, 1) := by decide +kernel
theorem dX11_isTurned_9 : decode cX11_isTurned 9 = .ok (.iload_n 1, 1) := by decide +kernel
theorem dX11_isTurned_10 : decode cX11_isTurned 10 = .ok (.invokevirtual 270, 3) := by decide +kernel
theorem dX11_isTurned_13 : decode cX11_isTurned 13 = .ok (.goto 5, 3) := by decide +kernel
theorem dX11_isTurned_16 : decode cX11_isTurned 16 = .ok (.bipush (-2), 2) := by decide +kernel
theorem dX11_isTurned_18 : decode cX11_isTurned 18 = .ok (.istore_n 2, 1) := by decide +kernel
theorem dX11_isTurned_19 : decode cX11_isTurned 19 = .ok (.iload_n 2, 1) := by decide +kernel
theorem dX11_isTurned_20 : decode cX11_isTurned 20 = .ok (.bipush (-2), 2) := by decide +kernel
theorem dX11_isTurned_22 : decode cX11_isTurned 22 = .ok (.if_icmp .ne 7, 3) := by decide +kernel
theorem dX11_isTurned_25 : decode cX11_isTurned 25 = .ok (.iconst (-1), 1) := by decide +kernel
theorem dX11_isTurned_26 : decode cX11_isTurned 26 = .ok (.goto 23, 3) := by decide +kernel
theorem dX11_isTurned_29 : decode cX11_isTurned 29 = .ok (.iload_n 2, 1) := by decide +kernel
theorem dX11_isTurned_30 : decode cX11_isTurned 30 = .ok (.ifCond .ge 8, 3) := by decide +kernel
theorem dX11_isTurned_33 : decode cX11_isTurned 33 = .ok (.bipush (-4), 2) := by decide +kernel
theorem dX11_isTurned_35 : decode cX11_isTurned 35 = .ok (.goto 14, 3) := by decide +kernel
theorem dX11_isTurned_38 : decode cX11_isTurned 38 = .ok (.aload_n 0, 1) := by decide +kernel
theorem dX11_isTurned_39 : decode cX11_isTurned 39 = .ok (.getfield 7, 3) := by decide +kernel
theorem dX11_isTurned_42 : decode cX11_isTurned 42 = .ok (.iload_n 2, 1) := by decide +kernel
theorem dX11_isTurned_43 : decode cX11_isTurned 43 = .ok (.bipush 6, 2) := by decide +kernel
theorem dX11_isTurned_45 : decode cX11_isTurned 45 = .ok (.invokestatic 94, 3) := by decide +kernel
theorem dX11_isTurned_48 : decode cX11_isTurned 48 = .ok (.iaload, 1) := by decide +kernel
theorem dX11_isTurned_49 : decode cX11_isTurned 49 = .ok (.ireturn, 1) := by decide +kernel
theorem dX11_record_0 : decode cX11_record 0 = .ok (.iconst 0, 1) := by decide +kernel
theorem dX11_record_1 : decode cX11_record 1 = .ok (.istore_n 3, 1) := by decide +kernel
theorem dX11_record_2 : decode cX11_record 2 = .ok (.iload_n 3, 1) := by decide +kernel
theorem dX11_record_3 : decode cX11_record 3 = .ok (.bipush 7, 2) := by decide +kernel
theorem dX11_record_5 : decode cX11_record 5 = .ok (.if_icmp .ge 30, 3) := by decide +kernel
theorem dX11_record_8 : decode cX11_record 8 = .ok (.aload_n 0, 1) := by decide +kernel
theorem dX11_record_9 : decode cX11_record 9 = .ok (.iload_n 1, 1) := by decide +kernel
theorem dX11_record_10 : decode cX11_record 10 = .ok (.iload_n 2, 1) := by decide +kernel
theorem dX11_record_11 : decode cX11_record 11 = .ok (.aload_n 0, 1) := by decide +kernel
theorem dX11_record_12 : decode cX11_record 12 = .ok (.getfield 7, 3) := by decide +kernel
theorem dX11_record_15 : decode cX11_record 15 = .ok (.iload_n 2, 1) := by decide +kernel
theorem dX11_record_16 : decode cX11_record 16 = .ok (.bipush 6, 2) := by decide +kernel
theorem dX11_record_18 : decode cX11_record 18 = .ok (.invokestatic 94, 3) := by decide +kernel
theorem dX11_record_21 : decode cX11_record 21 = .ok (.iaload, 1) := by decide +kernel
theorem dX11_record_22 : decode cX11_record 22 = .ok (.iload_n 3, 1) := by decide +kernel
theorem dX11_record_23 : decode cX11_record 23 = .ok (.invokevirtual 165, 3) := by decide +kernel
theorem dX11_record_26 : decode cX11_record 26 = .ok (.ifCond .ne 9, 3) := by decide +kernel
theorem dX11_record_29 : decode cX11_record 29 = .ok (.iinc 3 1, 3) := by decide +kernel
theorem dX11_record_32 : decode cX11_record 32 = .ok (.goto (-30), 3) := by decide +kernel
theorem dX11_record_35 : decode cX11_record 35 = .ok (.iload_n 3, 1) := by decide +kernel
theorem dX11_record_36 : decode cX11_record 36 = .ok (.ireturn, 1) := by decide +kernel
theorem dX11_recordOf_0 : decode cX11_recordOf 0 = .ok (.aload_n 0, 1) := by decide +kernel
theorem dX11_recordOf_1 : decode cX11_recordOf 1 = .ok (.iload_n 1, 1) := by decide +kernel
theorem dX11_recordOf_2 : decode cX11_recordOf 2 = .ok (.invokevirtual 138, 3) := by decide +kernel
theorem dX11_recordOf_5 : decode cX11_recordOf 5 = .ok (.ifCond .eq 11, 3) := by decide +kernel
theorem dX11_recordOf_8 : decode cX11_recordOf 8 = .ok (.aload_n 0, 1) := by decide +kernel
theorem dX11_recordOf_9 : decode cX11_recordOf 9 = .ok (.iload_n 1, 1) := by decide +kernel
theorem dX11_recordOf_10 : decode cX11_recordOf 10 = .ok (.invokevirtual 270, 3) := by decide +kernel
theorem dX11_recordOf_13 : decode cX11_recordOf 13 = .ok (.goto 5, 3) := by decide +kernel
theorem dX11_recordOf_16 : decode cX11_recordOf 16 = .ok (.bipush (-2), 2) := by decide +kernel
theorem dX11_recordOf_18 : decode cX11_recordOf 18 = .ok (.istore_n 2, 1) := by decide +kernel
theorem dX11_recordOf_19 : decode cX11_recordOf 19 = .ok (.iload_n 2, 1) := by decide +kernel
theorem dX11_recordOf_20 : decode cX11_recordOf 20 = .ok (.bipush (-2), 2) := by decide +kernel
theorem dX11_recordOf_22 : decode cX11_recordOf 22 = .ok (.if_icmp .ne 7, 3) := by decide +kernel
theorem dX11_recordOf_25 : decode cX11_recordOf 25 = .ok (.iconst (-1), 1) := by decide +kernel
theorem dX11_recordOf_26 : decode cX11_recordOf 26 = .ok (.goto 18, 3) := by decide +kernel
theorem dX11_recordOf_29 : decode cX11_recordOf 29 = .ok (.iload_n 2, 1) := by decide +kernel
theorem dX11_recordOf_30 : decode cX11_recordOf 30 = .ok (.ifCond .ge 8, 3) := by decide +kernel
theorem dX11_recordOf_33 : decode cX11_recordOf 33 = .ok (.bipush (-4), 2) := by decide +kernel
theorem dX11_recordOf_35 : decode cX11_recordOf 35 = .ok (.goto 9, 3) := by decide +kernel
theorem dX11_recordOf_38 : decode cX11_recordOf 38 = .ok (.aload_n 0, 1) := by decide +kernel
theorem dX11_recordOf_39 : decode cX11_recordOf 39 = .ok (.iload_n 1, 1) := by decide +kernel
theorem dX11_recordOf_40 : decode cX11_recordOf 40 = .ok (.iload_n 2, 1) := by decide +kernel
theorem dX11_recordOf_41 : decode cX11_recordOf 41 = .ok (.invokevirtual 279, 3) := by decide +kernel
theorem dX11_recordOf_44 : decode cX11_recordOf 44 = .ok (.ireturn, 1) := by decide +kernel
theorem dX11_pages_0 : decode cX11_pages 0 = .ok (.aload_n 0, 1) := by decide +kernel
theorem dX11_pages_1 : decode cX11_pages 1 = .ok (.getfield 7, 3) := by decide +kernel
theorem dX11_pages_4 : decode cX11_pages 4 = .ok (.bipush 13, 2) := by decide +kernel
theorem dX11_pages_6 : decode cX11_pages 6 = .ok (.iaload, 1) := by decide +kernel
theorem dX11_pages_7 : decode cX11_pages 7 = .ok (.ireturn, 1) := by decide +kernel
theorem dX11_isPage_0 : decode cX11_isPage 0 = .ok (.iload_n 1, 1) := by decide +kernel
theorem dX11_isPage_1 : decode cX11_isPage 1 = .ok (.iconst 0, 1) := by decide +kernel
theorem dX11_isPage_2 : decode cX11_isPage 2 = .ok (.aload_n 0, 1) := by decide +kernel
theorem dX11_isPage_3 : decode cX11_isPage 3 = .ok (.getfield 7, 3) := by decide +kernel
theorem dX11_isPage_6 : decode cX11_isPage 6 = .ok (.bipush 13, 2) := by decide +kernel
theorem dX11_isPage_8 : decode cX11_isPage 8 = .ok (.iaload, 1) := by decide +kernel
theorem dX11_isPage_9 : decode cX11_isPage 9 = .ok (.iconst 1, 1) := by decide +kernel
theorem dX11_isPage_10 : decode cX11_isPage 10 = .ok (.isub, 1) := by decide +kernel
theorem dX11_isPage_11 : decode cX11_isPage 11 = .ok (.invokestatic 86, 3) := by decide +kernel
theorem dX11_isPage_14 : decode cX11_isPage 14 = .ok (.ireturn, 1) := by decide +kernel
theorem dX11_isOnPage_0 : decode cX11_isOnPage 0 = .ok (.aload_n 0, 1) := by decide +kernel
theorem dX11_isOnPage_1 : decode cX11_isOnPage 1 = .ok (.iload_n 1, 1) := by decide +kernel
theorem dX11_isOnPage_2 : decode cX11_isOnPage 2 = .ok (.invokevirtual 282, 3) := by decide +kernel
theorem dX11_isOnPage_5 : decode cX11_isOnPage 5 = .ok (.ifCond .eq 39, 3) := by decide +kernel
theorem dX11_isOnPage_8 : decode cX11_isOnPage 8 = .ok (.iload_n 2, 1) := by decide +kernel
theorem dX11_isOnPage_9 : decode cX11_isOnPage 9 = .ok (.iconst 0, 1) := by decide +kernel
theorem dX11_isOnPage_10 : decode cX11_isOnPage 10 = .ok (.aload_n 0, 1) := by decide +kernel
theorem dX11_isOnPage_11 : decode cX11_isOnPage 11 = .ok (.getfield 7, 3) := by decide +kernel
theorem dX11_isOnPage_14 : decode cX11_isOnPage 14 = .ok (.iconst 1, 1) := by decide +kernel
theorem dX11_isOnPage_15 : decode cX11_isOnPage 15 = .ok (.iaload, 1) := by decide +kernel
theorem dX11_isOnPage_16 : decode cX11_isOnPage 16 = .ok (.iconst 1, 1) := by decide +kernel
theorem dX11_isOnPage_17 : decode cX11_isOnPage 17 = .ok (.isub, 1) := by decide +kernel
theorem dX11_isOnPage_18 : decode cX11_isOnPage 18 = .ok (.invokestatic 86, 3) := by decide +kernel
theorem dX11_isOnPage_21 : decode cX11_isOnPage 21 = .ok (.ifCond .eq 23, 3) := by decide +kernel
theorem dX11_isOnPage_24 : decode cX11_isOnPage 24 = .ok (.iload_n 3, 1) := by decide +kernel
theorem dX11_isOnPage_25 : decode cX11_isOnPage 25 = .ok (.iconst 0, 1) := by decide +kernel
theorem dX11_isOnPage_26 : decode cX11_isOnPage 26 = .ok (.aload_n 0, 1) := by decide +kernel
theorem dX11_isOnPage_27 : decode cX11_isOnPage 27 = .ok (.getfield 7, 3) := by decide +kernel
theorem dX11_isOnPage_30 : decode cX11_isOnPage 30 = .ok (.iconst 2, 1) := by decide +kernel
theorem dX11_isOnPage_31 : decode cX11_isOnPage 31 = .ok (.iaload, 1) := by decide +kernel
theorem dX11_isOnPage_32 : decode cX11_isOnPage 32 = .ok (.iconst 1, 1) := by decide +kernel
theorem dX11_isOnPage_33 : decode cX11_isOnPage 33 = .ok (.isub, 1) := by decide +kernel
theorem dX11_isOnPage_34 : decode cX11_isOnPage 34 = .ok (.invokestatic 86, 3) := by decide +kernel
theorem dX11_isOnPage_37 : decode cX11_isOnPage 37 = .ok (.ifCond .eq 7, 3) := by decide +kernel
theorem dX11_isOnPage_40 : decode cX11_isOnPage 40 = .ok (.iconst 1, 1) := by decide +kernel
theorem dX11_isOnPage_41 : decode cX11_isOnPage 41 = .ok (.goto 4, 3) := by decide +kernel
theorem dX11_isOnPage_44 : decode cX11_isOnPage 44 = .ok (.iconst 0, 1) := by decide +kernel
theorem dX11_isOnPage_45 : decode cX11_isOnPage 45 = .ok (.ireturn, 1) := by decide +kernel
theorem dX11_ownerAt_0 : decode cX11_ownerAt 0 = .ok (.aload_n 0, 1) := by decide +kernel
theorem dX11_ownerAt_1 : decode cX11_ownerAt 1 = .ok (.getfield 7, 3) := by decide +kernel
theorem dX11_ownerAt_4 : decode cX11_ownerAt 4 = .ok (.bipush 6, 2) := by decide +kernel
theorem dX11_ownerAt_6 : decode cX11_ownerAt 6 = .ok (.iaload, 1) := by decide +kernel
theorem dX11_ownerAt_7 : decode cX11_ownerAt 7 = .ok (.istore 4, 2) := by decide +kernel
theorem dX11_ownerAt_9 : decode cX11_ownerAt 9 = .ok (.iconst 0, 1) := by decide +kernel
theorem dX11_ownerAt_10 : decode cX11_ownerAt 10 = .ok (.istore 5, 2) := by decide +kernel
theorem dX11_ownerAt_12 : decode cX11_ownerAt 12 = .ok (.iload 5, 2) := by decide +kernel
theorem dX11_ownerAt_14 : decode cX11_ownerAt 14 = .ok (.aload_n 0, 1) := by decide +kernel
theorem dX11_ownerAt_15 : decode cX11_ownerAt 15 = .ok (.getfield 7, 3) := by decide +kernel
theorem dX11_ownerAt_18 : decode cX11_ownerAt 18 = .ok (.iconst 0, 1) := by decide +kernel
theorem dX11_ownerAt_19 : decode cX11_ownerAt 19 = .ok (.iaload, 1) := by decide +kernel
theorem dX11_ownerAt_20 : decode cX11_ownerAt 20 = .ok (.if_icmp .ge 125, 3) := by decide +kernel
theorem dX11_ownerAt_23 : decode cX11_ownerAt 23 = .ok (.aload_n 0, 1) := by decide +kernel
theorem dX11_ownerAt_24 : decode cX11_ownerAt 24 = .ok (.getfield 7, 3) := by decide +kernel
theorem dX11_ownerAt_27 : decode cX11_ownerAt 27 = .ok (.iload 5, 2) := by decide +kernel
theorem dX11_ownerAt_29 : decode cX11_ownerAt 29 = .ok (.bipush 6, 2) := by decide +kernel
theorem dX11_ownerAt_31 : decode cX11_ownerAt 31 = .ok (.invokestatic 94, 3) := by decide +kernel
theorem dX11_ownerAt_34 : decode cX11_ownerAt 34 = .ok (.iaload, 1) := by decide +kernel
theorem dX11_ownerAt_35 : decode cX11_ownerAt 35 = .ok (.istore 6, 2) := by decide +kernel
theorem dX11_ownerAt_37 : decode cX11_ownerAt 37 = .ok (.aload_n 0, 1) := by decide +kernel
theorem dX11_ownerAt_38 : decode cX11_ownerAt 38 = .ok (.getfield 7, 3) := by decide +kernel
theorem dX11_ownerAt_41 : decode cX11_ownerAt 41 = .ok (.iload 5, 2) := by decide +kernel
theorem dX11_ownerAt_43 : decode cX11_ownerAt 43 = .ok (.iconst 3, 1) := by decide +kernel
theorem dX11_ownerAt_44 : decode cX11_ownerAt 44 = .ok (.invokestatic 94, 3) := by decide +kernel
theorem dX11_ownerAt_47 : decode cX11_ownerAt 47 = .ok (.iaload, 1) := by decide +kernel
theorem dX11_ownerAt_48 : decode cX11_ownerAt 48 = .ok (.iload_n 1, 1) := by decide +kernel
theorem dX11_ownerAt_49 : decode cX11_ownerAt 49 = .ok (.if_icmp .ne 43, 3) := by decide +kernel
theorem dX11_ownerAt_52 : decode cX11_ownerAt 52 = .ok (.iload_n 2, 1) := by decide +kernel
theorem dX11_ownerAt_53 : decode cX11_ownerAt 53 = .ok (.aload_n 0, 1) := by decide +kernel
theorem dX11_ownerAt_54 : decode cX11_ownerAt 54 = .ok (.iload 5, 2) := by decide +kernel
theorem dX11_ownerAt_56 : decode cX11_ownerAt 56 = .ok (.invokevirtual 273, 3) := by decide +kernel
theorem dX11_ownerAt_59 : decode cX11_ownerAt 59 = .ok (.iload 4, 2) := by decide +kernel
theorem dX11_ownerAt_61 : decode cX11_ownerAt 61 = .ok (.isub, 1) := by decide +kernel
theorem dX11_ownerAt_62 : decode cX11_ownerAt 62 = .ok (.aload_n 0, 1) := by decide +kernel
theorem dX11_ownerAt_63 : decode cX11_ownerAt 63 = .ok (.iload 5, 2) := by decide +kernel
theorem dX11_ownerAt_65 : decode cX11_ownerAt 65 = .ok (.invokevirtual 273, 3) := by decide +kernel
theorem dX11_ownerAt_68 : decode cX11_ownerAt 68 = .ok (.aload_n 0, 1) := by decide +kernel
theorem dX11_ownerAt_69 : decode cX11_ownerAt 69 = .ok (.iload 5, 2) := by decide +kernel
theorem dX11_ownerAt_71 : decode cX11_ownerAt 71 = .ok (.iload 6, 2) := by decide +kernel
theorem dX11_ownerAt_73 : decode cX11_ownerAt 73 = .ok (.invokevirtual 179, 3) := by decide +kernel
theorem dX11_ownerAt_76 : decode cX11_ownerAt 76 = .ok (.iadd, 1) := by decide +kernel
theorem dX11_ownerAt_77 : decode cX11_ownerAt 77 = .ok (.iload 4, 2) := by decide +kernel
theorem dX11_ownerAt_79 : decode cX11_ownerAt 79 = .ok (.iadd, 1) := by decide +kernel
theorem dX11_ownerAt_80 : decode cX11_ownerAt 80 = .ok (.iconst 1, 1) := by decide +kernel
theorem dX11_ownerAt_81 : decode cX11_ownerAt 81 = .ok (.isub, 1) := by decide +kernel
theorem dX11_ownerAt_82 : decode cX11_ownerAt 82 = .ok (.invokestatic 86, 3) := by decide +kernel
theorem dX11_ownerAt_85 : decode cX11_ownerAt 85 = .ok (.ifCond .eq 7, 3) := by decide +kernel
theorem dX11_ownerAt_88 : decode cX11_ownerAt 88 = .ok (.iconst 1, 1) := by decide +kernel
theorem dX11_ownerAt_89 : decode cX11_ownerAt 89 = .ok (.goto 4, 3) := by decide +kernel
theorem dX11_ownerAt_92 : decode cX11_ownerAt 92 = .ok (.iconst 0, 1) := by decide +kernel
theorem dX11_ownerAt_93 : decode cX11_ownerAt 93 = .ok (.istore 7, 2) := by decide +kernel
theorem dX11_ownerAt_95 : decode cX11_ownerAt 95 = .ok (.iload 7, 2) := by decide +kernel
theorem dX11_ownerAt_97 : decode cX11_ownerAt 97 = .ok (.ifCond .eq 42, 3) := by decide +kernel
theorem dX11_ownerAt_100 : decode cX11_ownerAt 100 = .ok (.iload_n 3, 1) := by decide +kernel
theorem dX11_ownerAt_101 : decode cX11_ownerAt 101 = .ok (.aload_n 0, 1) := by decide +kernel
theorem dX11_ownerAt_102 : decode cX11_ownerAt 102 = .ok (.iload 5, 2) := by decide +kernel
theorem dX11_ownerAt_104 : decode cX11_ownerAt 104 = .ok (.invokevirtual 276, 3) := by decide +kernel
theorem dX11_ownerAt_107 : decode cX11_ownerAt 107 = .ok (.iload 4, 2) := by decide +kernel
theorem dX11_ownerAt_109 : decode cX11_ownerAt 109 = .ok (.isub, 1) := by decide +kernel
theorem dX11_ownerAt_110 : decode cX11_ownerAt 110 = .ok (.aload_n 0, 1) := by decide +kernel
theorem dX11_ownerAt_111 : decode cX11_ownerAt 111 = .ok (.iload 5, 2) := by decide +kernel
theorem dX11_ownerAt_113 : decode cX11_ownerAt 113 = .ok (.invokevirtual 276, 3) := by decide +kernel
theorem dX11_ownerAt_116 : decode cX11_ownerAt 116 = .ok (.aload_n 0, 1) := by decide +kernel
theorem dX11_ownerAt_117 : decode cX11_ownerAt 117 = .ok (.iload 5, 2) := by decide +kernel
theorem dX11_ownerAt_119 : decode cX11_ownerAt 119 = .ok (.iload 6, 2) := by decide +kernel
theorem dX11_ownerAt_121 : decode cX11_ownerAt 121 = .ok (.invokevirtual 182, 3) := by decide +kernel
theorem dX11_ownerAt_124 : decode cX11_ownerAt 124 = .ok (.iadd, 1) := by decide +kernel
theorem dX11_ownerAt_125 : decode cX11_ownerAt 125 = .ok (.iload 4, 2) := by decide +kernel
theorem dX11_ownerAt_127 : decode cX11_ownerAt 127 = .ok (.iadd, 1) := by decide +kernel
theorem dX11_ownerAt_128 : decode cX11_ownerAt 128 = .ok (.iconst 1, 1) := by decide +kernel
theorem dX11_ownerAt_129 : decode cX11_ownerAt 129 = .ok (.isub, 1) := by decide +kernel
theorem dX11_ownerAt_130 : decode cX11_ownerAt 130 = .ok (.invokestatic 86, 3) := by decide +kernel
theorem dX11_ownerAt_133 : decode cX11_ownerAt 133 = .ok (.ifCond .eq 6, 3) := by decide +kernel
theorem dX11_ownerAt_136 : decode cX11_ownerAt 136 = .ok (.iload 5, 2) := by decide +kernel
theorem dX11_ownerAt_138 : decode cX11_ownerAt 138 = .ok (.ireturn, 1) := by decide +kernel
theorem dX11_ownerAt_139 : decode cX11_ownerAt 139 = .ok (.iinc 5 1, 3) := by decide +kernel
theorem dX11_ownerAt_142 : decode cX11_ownerAt 142 = .ok (.goto (-130), 3) := by decide +kernel
theorem dX11_ownerAt_145 : decode cX11_ownerAt 145 = .ok (.iconst (-1), 1) := by decide +kernel
theorem dX11_ownerAt_146 : decode cX11_ownerAt 146 = .ok (.ireturn, 1) := by decide +kernel
theorem dX11_held_0 : decode cX11_held 0 = .ok (.iload_n 0, 1) := by decide +kernel
theorem dX11_held_1 : decode cX11_held 1 = .ok (.ifCond .ge 7, 3) := by decide +kernel
theorem dX11_held_4 : decode cX11_held 4 = .ok (.iconst 0, 1) := by decide +kernel
theorem dX11_held_5 : decode cX11_held 5 = .ok (.goto 13, 3) := by decide +kernel
theorem dX11_held_8 : decode cX11_held 8 = .ok (.iload_n 0, 1) := by decide +kernel
theorem dX11_held_9 : decode cX11_held 9 = .ok (.iload_n 1, 1) := by decide +kernel
theorem dX11_held_10 : decode cX11_held 10 = .ok (.if_icmp .le 7, 3) := by decide +kernel
theorem dX11_held_13 : decode cX11_held 13 = .ok (.iload_n 1, 1) := by decide +kernel
theorem dX11_held_14 : decode cX11_held 14 = .ok (.goto 4, 3) := by decide +kernel
theorem dX11_held_17 : decode cX11_held 17 = .ok (.iload_n 0, 1) := by decide +kernel
theorem dX11_held_18 : decode cX11_held 18 = .ok (.ireturn, 1) := by decide +kernel
theorem dX11_colorAt_0 : decode cX11_colorAt 0 = .ok (.aload_n 0, 1) := by decide +kernel
theorem dX11_colorAt_1 : decode cX11_colorAt 1 = .ok (.iload_n 1, 1) := by decide +kernel
theorem dX11_colorAt_2 : decode cX11_colorAt 2 = .ok (.iload_n 2, 1) := by decide +kernel
theorem dX11_colorAt_3 : decode cX11_colorAt 3 = .ok (.iload_n 3, 1) := by decide +kernel
theorem dX11_colorAt_4 : decode cX11_colorAt 4 = .ok (.invokevirtual 285, 3) := by decide +kernel
theorem dX11_colorAt_7 : decode cX11_colorAt 7 = .ok (.istore 4, 2) := by decide +kernel
theorem dX11_colorAt_9 : decode cX11_colorAt 9 = .ok (.iload 4, 2) := by decide +kernel
theorem dX11_colorAt_11 : decode cX11_colorAt 11 = .ok (.ifCond .ge 5, 3) := by decide +kernel
theorem dX11_colorAt_14 : decode cX11_colorAt 14 = .ok (.iconst 0, 1) := by decide +kernel
theorem dX11_colorAt_15 : decode cX11_colorAt 15 = .ok (.ireturn, 1) := by decide +kernel
theorem dX11_colorAt_16 : decode cX11_colorAt 16 = .ok (.aload_n 0, 1) := by decide +kernel
theorem dX11_colorAt_17 : decode cX11_colorAt 17 = .ok (.getfield 7, 3) := by decide +kernel
theorem dX11_colorAt_20 : decode cX11_colorAt 20 = .ok (.iload 4, 2) := by decide +kernel
theorem dX11_colorAt_22 : decode cX11_colorAt 22 = .ok (.bipush 6, 2) := by decide +kernel
theorem dX11_colorAt_24 : decode cX11_colorAt 24 = .ok (.invokestatic 94, 3) := by decide +kernel
theorem dX11_colorAt_27 : decode cX11_colorAt 27 = .ok (.iaload, 1) := by decide +kernel
theorem dX11_colorAt_28 : decode cX11_colorAt 28 = .ok (.istore 5, 2) := by decide +kernel
theorem dX11_colorAt_30 : decode cX11_colorAt 30 = .ok (.iload_n 2, 1) := by decide +kernel
theorem dX11_colorAt_31 : decode cX11_colorAt 31 = .ok (.aload_n 0, 1) := by decide +kernel
theorem dX11_colorAt_32 : decode cX11_colorAt 32 = .ok (.iload 4, 2) := by decide +kernel
theorem dX11_colorAt_34 : decode cX11_colorAt 34 = .ok (.invokevirtual 273, 3) := by decide +kernel
theorem dX11_colorAt_37 : decode cX11_colorAt 37 = .ok (.isub, 1) := by decide +kernel
theorem dX11_colorAt_38 : decode cX11_colorAt 38 = .ok (.aload_n 0, 1) := by decide +kernel
theorem dX11_colorAt_39 : decode cX11_colorAt 39 = .ok (.iload 4, 2) := by decide +kernel
theorem dX11_colorAt_41 : decode cX11_colorAt 41 = .ok (.iload 5, 2) := by decide +kernel
theorem dX11_colorAt_43 : decode cX11_colorAt 43 = .ok (.invokevirtual 179, 3) := by decide +kernel
theorem dX11_colorAt_46 : decode cX11_colorAt 46 = .ok (.iconst 1, 1) := by decide +kernel
theorem dX11_colorAt_47 : decode cX11_colorAt 47 = .ok (.isub, 1) := by decide +kernel
theorem dX11_colorAt_48 : decode cX11_colorAt 48 = .ok (.invokestatic 288, 3) := by decide +kernel
theorem dX11_colorAt_51 : decode cX11_colorAt 51 = .ok (.istore 6, 2) := by decide +kernel
theorem dX11_colorAt_53 : decode cX11_colorAt 53 = .ok (.iload_n 3, 1) := by decide +kernel
theorem dX11_colorAt_54 : decode cX11_colorAt 54 = .ok (.aload_n 0, 1) := by decide +kernel
theorem dX11_colorAt_55 : decode cX11_colorAt 55 = .ok (.iload 4, 2) := by decide +kernel
theorem dX11_colorAt_57 : decode cX11_colorAt 57 = .ok (.invokevirtual 276, 3) := by decide +kernel
theorem dX11_colorAt_60 : decode cX11_colorAt 60 = .ok (.isub, 1) := by decide +kernel
theorem dX11_colorAt_61 : decode cX11_colorAt 61 = .ok (.aload_n 0, 1) := by decide +kernel
theorem dX11_colorAt_62 : decode cX11_colorAt 62 = .ok (.iload 4, 2) := by decide +kernel
theorem dX11_colorAt_64 : decode cX11_colorAt 64 = .ok (.iload 5, 2) := by decide +kernel
theorem dX11_colorAt_66 : decode cX11_colorAt 66 = .ok (.invokevirtual 182, 3) := by decide +kernel
theorem dX11_colorAt_69 : decode cX11_colorAt 69 = .ok (.iconst 1, 1) := by decide +kernel
theorem dX11_colorAt_70 : decode cX11_colorAt 70 = .ok (.isub, 1) := by decide +kernel
theorem dX11_colorAt_71 : decode cX11_colorAt 71 = .ok (.invokestatic 288, 3) := by decide +kernel
theorem dX11_colorAt_74 : decode cX11_colorAt 74 = .ok (.istore 7, 2) := by decide +kernel
theorem dX11_colorAt_76 : decode cX11_colorAt 76 = .ok (.aload_n 0, 1) := by decide +kernel
theorem dX11_colorAt_77 : decode cX11_colorAt 77 = .ok (.iload 4, 2) := by decide +kernel
theorem dX11_colorAt_79 : decode cX11_colorAt 79 = .ok (.iload 5, 2) := by decide +kernel
theorem dX11_colorAt_81 : decode cX11_colorAt 81 = .ok (.iconst 0, 1) := by decide +kernel
theorem dX11_colorAt_82 : decode cX11_colorAt 82 = .ok (.iload 6, 2) := by decide +kernel
theorem dX11_colorAt_84 : decode cX11_colorAt 84 = .ok (.iload 7, 2) := by decide +kernel
theorem dX11_colorAt_86 : decode cX11_colorAt 86 = .ok (.invokevirtual 158, 3) := by decide +kernel
theorem dX11_colorAt_89 : decode cX11_colorAt 89 = .ok (.ireturn, 1) := by decide +kernel
theorem dX11_pixel_0 : decode cX11_pixel 0 = .ok (.aload_n 0, 1) := by decide +kernel
theorem dX11_pixel_1 : decode cX11_pixel 1 = .ok (.iload_n 1, 1) := by decide +kernel
theorem dX11_pixel_2 : decode cX11_pixel 2 = .ok (.iload_n 2, 1) := by decide +kernel
theorem dX11_pixel_3 : decode cX11_pixel 3 = .ok (.iload_n 3, 1) := by decide +kernel
theorem dX11_pixel_4 : decode cX11_pixel 4 = .ok (.invokevirtual 291, 3) := by decide +kernel
theorem dX11_pixel_7 : decode cX11_pixel 7 = .ok (.ifCond .ne 5, 3) := by decide +kernel
theorem dX11_pixel_10 : decode cX11_pixel 10 = .ok (.iconst (-1), 1) := by decide +kernel
theorem dX11_pixel_11 : decode cX11_pixel 11 = .ok (.ireturn, 1) := by decide +kernel
theorem dX11_pixel_12 : decode cX11_pixel 12 = .ok (.aload_n 0, 1) := by decide +kernel
theorem dX11_pixel_13 : decode cX11_pixel 13 = .ok (.invokevirtual 176, 3) := by decide +kernel
theorem dX11_pixel_16 : decode cX11_pixel 16 = .ok (.aload_n 0, 1) := by decide +kernel
theorem dX11_pixel_17 : decode cX11_pixel 17 = .ok (.iload_n 1, 1) := by decide +kernel
theorem dX11_pixel_18 : decode cX11_pixel 18 = .ok (.iload_n 2, 1) := by decide +kernel
theorem dX11_pixel_19 : decode cX11_pixel 19 = .ok (.iload_n 3, 1) := by decide +kernel
theorem dX11_pixel_20 : decode cX11_pixel 20 = .ok (.invokevirtual 294, 3) := by decide +kernel
theorem dX11_pixel_23 : decode cX11_pixel 23 = .ok (.ireturn, 1) := by decide +kernel
theorem dX11_spriteAt_0 : decode cX11_spriteAt 0 = .ok (.aload_n 0, 1) := by decide +kernel
theorem dX11_spriteAt_1 : decode cX11_spriteAt 1 = .ok (.iload_n 1, 1) := by decide +kernel
theorem dX11_spriteAt_2 : decode cX11_spriteAt 2 = .ok (.iload_n 2, 1) := by decide +kernel
theorem dX11_spriteAt_3 : decode cX11_spriteAt 3 = .ok (.iload_n 3, 1) := by decide +kernel
theorem dX11_spriteAt_4 : decode cX11_spriteAt 4 = .ok (.invokevirtual 291, 3) := by decide +kernel
theorem dX11_spriteAt_7 : decode cX11_spriteAt 7 = .ok (.ifCond .ne 5, 3) := by decide +kernel
theorem dX11_spriteAt_10 : decode cX11_spriteAt 10 = .ok (.iconst (-1), 1) := by decide +kernel
theorem dX11_spriteAt_11 : decode cX11_spriteAt 11 = .ok (.ireturn, 1) := by decide +kernel
theorem dX11_spriteAt_12 : decode cX11_spriteAt 12 = .ok (.aload_n 0, 1) := by decide +kernel
theorem dX11_spriteAt_13 : decode cX11_spriteAt 13 = .ok (.invokevirtual 176, 3) := by decide +kernel
theorem dX11_spriteAt_16 : decode cX11_spriteAt 16 = .ok (.aload_n 0, 1) := by decide +kernel
theorem dX11_spriteAt_17 : decode cX11_spriteAt 17 = .ok (.iload_n 1, 1) := by decide +kernel
theorem dX11_spriteAt_18 : decode cX11_spriteAt 18 = .ok (.iload_n 2, 1) := by decide +kernel
theorem dX11_spriteAt_19 : decode cX11_spriteAt 19 = .ok (.iload_n 3, 1) := by decide +kernel
theorem dX11_spriteAt_20 : decode cX11_spriteAt 20 = .ok (.invokevirtual 285, 3) := by decide +kernel
theorem dX11_spriteAt_23 : decode cX11_spriteAt 23 = .ok (.istore 4, 2) := by decide +kernel
theorem dX11_spriteAt_25 : decode cX11_spriteAt 25 = .ok (.iload 4, 2) := by decide +kernel
theorem dX11_spriteAt_27 : decode cX11_spriteAt 27 = .ok (.ifCond .ge 8, 3) := by decide +kernel
theorem dX11_spriteAt_30 : decode cX11_spriteAt 30 = .ok (.bipush (-4), 2) := by decide +kernel
theorem dX11_spriteAt_32 : decode cX11_spriteAt 32 = .ok (.goto 5, 3) := by decide +kernel
theorem dX11_spriteAt_35 : decode cX11_spriteAt 35 = .ok (.iload 4, 2) := by decide +kernel
theorem dX11_spriteAt_37 : decode cX11_spriteAt 37 = .ok (.ireturn, 1) := by decide +kernel
theorem dX11_used_0 : decode cX11_used 0 = .ok (.aload_n 0, 1) := by decide +kernel
theorem dX11_used_1 : decode cX11_used 1 = .ok (.getfield 7, 3) := by decide +kernel
theorem dX11_used_4 : decode cX11_used 4 = .ok (.iconst 5, 1) := by decide +kernel
theorem dX11_used_5 : decode cX11_used 5 = .ok (.iaload, 1) := by decide +kernel
theorem dX11_used_6 : decode cX11_used 6 = .ok (.istore_n 3, 1) := by decide +kernel
theorem dX11_used_7 : decode cX11_used 7 = .ok (.iconst 0, 1) := by decide +kernel
theorem dX11_used_8 : decode cX11_used 8 = .ok (.istore 4, 2) := by decide +kernel
theorem dX11_used_10 : decode cX11_used 10 = .ok (.iload 4, 2) := by decide +kernel
theorem dX11_used_12 : decode cX11_used 12 = .ok (.aload_n 0, 1) := by decide +kernel
theorem dX11_used_13 : decode cX11_used 13 = .ok (.getfield 7, 3) := by decide +kernel
theorem dX11_used_16 : decode cX11_used 16 = .ok (.iconst 0, 1) := by decide +kernel
theorem dX11_used_17 : decode cX11_used 17 = .ok (.iaload, 1) := by decide +kernel
theorem dX11_used_18 : decode cX11_used 18 = .ok (.if_icmp .ge 106, 3) := by decide +kernel
theorem dX11_used_21 : decode cX11_used 21 = .ok (.aload_n 0, 1) := by decide +kernel
theorem dX11_used_22 : decode cX11_used 22 = .ok (.getfield 7, 3) := by decide +kernel
theorem dX11_used_25 : decode cX11_used 25 = .ok (.iload 4, 2) := by decide +kernel
theorem dX11_used_27 : decode cX11_used 27 = .ok (.iconst 3, 1) := by decide +kernel
theorem dX11_used_28 : decode cX11_used 28 = .ok (.invokestatic 94, 3) := by decide +kernel
theorem dX11_used_31 : decode cX11_used 31 = .ok (.iaload, 1) := by decide +kernel
theorem dX11_used_32 : decode cX11_used 32 = .ok (.iload_n 1, 1) := by decide +kernel
theorem dX11_used_33 : decode cX11_used 33 = .ok (.if_icmp .ne 85, 3) := by decide +kernel
theorem dX11_used_36 : decode cX11_used 36 = .ok (.aload_n 0, 1) := by decide +kernel
theorem dX11_used_37 : decode cX11_used 37 = .ok (.getfield 7, 3) := by decide +kernel
theorem dX11_used_40 : decode cX11_used 40 = .ok (.iload 4, 2) := by decide +kernel
theorem dX11_used_42 : decode cX11_used 42 = .ok (.bipush 6, 2) := by decide +kernel
theorem dX11_used_44 : decode cX11_used 44 = .ok (.invokestatic 94, 3) := by decide +kernel
theorem dX11_used_47 : decode cX11_used 47 = .ok (.iaload, 1) := by decide +kernel
theorem dX11_used_48 : decode cX11_used 48 = .ok (.istore 5, 2) := by decide +kernel
theorem dX11_used_50 : decode cX11_used 50 = .ok (.iload_n 2, 1) := by decide +kernel
theorem dX11_used_51 : decode cX11_used 51 = .ok (.ifCond .eq 21, 3) := by decide +kernel
theorem dX11_used_54 : decode cX11_used 54 = .ok (.aload_n 0, 1) := by decide +kernel
theorem dX11_used_55 : decode cX11_used 55 = .ok (.iload 4, 2) := by decide +kernel
theorem dX11_used_57 : decode cX11_used 57 = .ok (.invokevirtual 273, 3) := by decide +kernel
theorem dX11_used_60 : decode cX11_used 60 = .ok (.aload_n 0, 1) := by decide +kernel
theorem dX11_used_61 : decode cX11_used 61 = .ok (.iload 4, 2) := by decide +kernel
theorem dX11_used_63 : decode cX11_used 63 = .ok (.iload 5, 2) := by decide +kernel
theorem dX11_used_65 : decode cX11_used 65 = .ok (.invokevirtual 179, 3) := by decide +kernel
theorem dX11_used_68 : decode cX11_used 68 = .ok (.iadd, 1) := by decide +kernel
theorem dX11_used_69 : decode cX11_used 69 = .ok (.goto 18, 3) := by decide +kernel
theorem dX11_used_72 : decode cX11_used 72 = .ok (.aload_n 0, 1) := by decide +kernel
theorem dX11_used_73 : decode cX11_used 73 = .ok (.iload 4, 2) := by decide +kernel
theorem dX11_used_75 : decode cX11_used 75 = .ok (.invokevirtual 276, 3) := by decide +kernel
theorem dX11_used_78 : decode cX11_used 78 = .ok (.aload_n 0, 1) := by decide +kernel
theorem dX11_used_79 : decode cX11_used 79 = .ok (.iload 4, 2) := by decide +kernel
theorem dX11_used_81 : decode cX11_used 81 = .ok (.iload 5, 2) := by decide +kernel
theorem dX11_used_83 : decode cX11_used 83 = .ok (.invokevirtual 182, 3) := by decide +kernel
theorem dX11_used_86 : decode cX11_used 86 = .ok (.iadd, 1) := by decide +kernel
theorem dX11_used_87 : decode cX11_used 87 = .ok (.istore 6, 2) := by decide +kernel
theorem dX11_used_89 : decode cX11_used 89 = .ok (.iload 6, 2) := by decide +kernel
theorem dX11_used_91 : decode cX11_used 91 = .ok (.aload_n 0, 1) := by decide +kernel
theorem dX11_used_92 : decode cX11_used 92 = .ok (.getfield 7, 3) := by decide +kernel
theorem dX11_used_95 : decode cX11_used 95 = .ok (.bipush 6, 2) := by decide +kernel
theorem dX11_used_97 : decode cX11_used 97 = .ok (.iaload, 1) := by decide +kernel
theorem dX11_used_98 : decode cX11_used 98 = .ok (.iadd, 1) := by decide +kernel
theorem dX11_used_99 : decode cX11_used 99 = .ok (.iload_n 3, 1) := by decide +kernel
theorem dX11_used_100 : decode cX11_used 100 = .ok (.if_icmp .le 16, 3) := by decide +kernel
theorem dX11_used_103 : decode cX11_used 103 = .ok (.iload 6, 2) := by decide +kernel
theorem dX11_used_105 : decode cX11_used 105 = .ok (.aload_n 0, 1) := by decide +kernel
theorem dX11_used_106 : decode cX11_used 106 = .ok (.getfield 7, 3) := by decide +kernel
theorem dX11_used_109 : decode cX11_used 109 = .ok (.bipush 6, 2) := by decide +kernel
theorem dX11_used_111 : decode cX11_used 111 = .ok (.iaload, 1) := by decide +kernel
theorem dX11_used_112 : decode cX11_used 112 = .ok (.iadd, 1) := by decide +kernel
theorem dX11_used_113 : decode cX11_used 113 = .ok (.goto 4, 3) := by decide +kernel
theorem dX11_used_116 : decode cX11_used 116 = .ok (.iload_n 3, 1) := by decide +kernel
theorem dX11_used_117 : decode cX11_used 117 = .ok (.istore_n 3, 1) := by decide +kernel
theorem dX11_used_118 : decode cX11_used 118 = .ok (.iinc 4 1, 3) := by decide +kernel
theorem dX11_used_121 : decode cX11_used 121 = .ok (.goto (-111), 3) := by decide +kernel
theorem dX11_used_124 : decode cX11_used 124 = .ok (.iload_n 3, 1) := by decide +kernel
theorem dX11_used_125 : decode cX11_used 125 = .ok (.aload_n 0, 1) := by decide +kernel
theorem dX11_used_126 : decode cX11_used 126 = .ok (.getfield 7, 3) := by decide +kernel
theorem dX11_used_129 : decode cX11_used 129 = .ok (.iconst 5, 1) := by decide +kernel
theorem dX11_used_130 : decode cX11_used 130 = .ok (.iaload, 1) := by decide +kernel
theorem dX11_used_131 : decode cX11_used 131 = .ok (.iadd, 1) := by decide +kernel
theorem dX11_used_132 : decode cX11_used 132 = .ok (.ireturn, 1) := by decide +kernel
theorem dX11_usedWidth_0 : decode cX11_usedWidth 0 = .ok (.aload_n 0, 1) := by decide +kernel
theorem dX11_usedWidth_1 : decode cX11_usedWidth 1 = .ok (.iload_n 1, 1) := by decide +kernel
theorem dX11_usedWidth_2 : decode cX11_usedWidth 2 = .ok (.invokevirtual 282, 3) := by decide +kernel
theorem dX11_usedWidth_5 : decode cX11_usedWidth 5 = .ok (.ifCond .ne 5, 3) := by decide +kernel
theorem dX11_usedWidth_8 : decode cX11_usedWidth 8 = .ok (.iconst (-1), 1) := by decide +kernel
theorem dX11_usedWidth_9 : decode cX11_usedWidth 9 = .ok (.ireturn, 1) := by decide +kernel
theorem dX11_usedWidth_10 : decode cX11_usedWidth 10 = .ok (.aload_n 0, 1) := by decide +kernel
theorem dX11_usedWidth_11 : decode cX11_usedWidth 11 = .ok (.invokevirtual 176, 3) := by decide +kernel
theorem dX11_usedWidth_14 : decode cX11_usedWidth 14 = .ok (.aload_n 0, 1) := by decide +kernel
theorem dX11_usedWidth_15 : decode cX11_usedWidth 15 = .ok (.iload_n 1, 1) := by decide +kernel
theorem dX11_usedWidth_16 : decode cX11_usedWidth 16 = .ok (.iconst 1, 1) := by decide +kernel
theorem dX11_usedWidth_17 : decode cX11_usedWidth 17 = .ok (.invokevirtual 297, 3) := by decide +kernel
theorem dX11_usedWidth_20 : decode cX11_usedWidth 20 = .ok (.ireturn, 1) := by decide +kernel
theorem dX11_usedHeight_0 : decode cX11_usedHeight 0 = .ok (.aload_n 0, 1) := by decide +kernel
theorem dX11_usedHeight_1 : decode cX11_usedHeight 1 = .ok (.iload_n 1, 1) := by decide +kernel
theorem dX11_usedHeight_2 : decode cX11_usedHeight 2 = .ok (.invokevirtual 282, 3) := by decide +kernel
theorem dX11_usedHeight_5 : decode cX11_usedHeight 5 = .ok (.ifCond .ne 5, 3) := by decide +kernel
theorem dX11_usedHeight_8 : decode cX11_usedHeight 8 = .ok (.iconst (-1), 1) := by decide +kernel
theorem dX11_usedHeight_9 : decode cX11_usedHeight 9 = .ok (.ireturn, 1) := by decide +kernel
theorem dX11_usedHeight_10 : decode cX11_usedHeight 10 = .ok (.aload_n 0, 1) := by decide +kernel
theorem dX11_usedHeight_11 : decode cX11_usedHeight 11 = .ok (.invokevirtual 176, 3) := by decide +kernel
theorem dX11_usedHeight_14 : decode cX11_usedHeight 14 = .ok (.aload_n 0, 1) := by decide +kernel
theorem dX11_usedHeight_15 : decode cX11_usedHeight 15 = .ok (.iload_n 1, 1) := by decide +kernel
theorem dX11_usedHeight_16 : decode cX11_usedHeight 16 = .ok (.iconst 0, 1) := by decide +kernel
theorem dX11_usedHeight_17 : decode cX11_usedHeight 17 = .ok (.invokevirtual 297, 3) := by decide +kernel
theorem dX11_usedHeight_20 : decode cX11_usedHeight 20 = .ok (.ireturn, 1) := by decide +kernel
theorem dX11_looks_0 : decode cX11_looks 0 = .ok (.aload_n 0, 1) := by decide +kernel
theorem dX11_looks_1 : decode cX11_looks 1 = .ok (.iload_n 1, 1) := by decide +kernel
theorem dX11_looks_2 : decode cX11_looks 2 = .ok (.invokevirtual 282, 3) := by decide +kernel
theorem dX11_looks_5 : decode cX11_looks 5 = .ok (.ifCond .ne 5, 3) := by decide +kernel
theorem dX11_looks_8 : decode cX11_looks 8 = .ok (.iconst (-1), 1) := by decide +kernel
theorem dX11_looks_9 : decode cX11_looks 9 = .ok (.ireturn, 1) := by decide +kernel
theorem dX11_looks_10 : decode cX11_looks 10 = .ok (.aload_n 0, 1) := by decide +kernel
theorem dX11_looks_11 : decode cX11_looks 11 = .ok (.invokevirtual 176, 3) := by decide +kernel
theorem dX11_looks_14 : decode cX11_looks 14 = .ok (.aload_n 0, 1) := by decide +kernel
theorem dX11_looks_15 : decode cX11_looks 15 = .ok (.iload_n 1, 1) := by decide +kernel
theorem dX11_looks_16 : decode cX11_looks 16 = .ok (.invokevirtual 234, 3) := by decide +kernel
theorem dX11_looks_19 : decode cX11_looks 19 = .ok (.aload_n 0, 1) := by decide +kernel
theorem dX11_looks_20 : decode cX11_looks 20 = .ok (.getfield 200, 3) := by decide +kernel
theorem dX11_looks_23 : decode cX11_looks 23 = .ok (.ireturn, 1) := by decide +kernel
theorem dX11_freeRectangles_0 : decode cX11_freeRectangles 0 = .ok (.aload_n 0, 1) := by decide +kernel
theorem dX11_freeRectangles_1 : decode cX11_freeRectangles 1 = .ok (.iload_n 1, 1) := by decide +kernel
theorem dX11_freeRectangles_2 : decode cX11_freeRectangles 2 = .ok (.invokevirtual 301, 3) := by decide +kernel
theorem dX11_freeRectangles_5 : decode cX11_freeRectangles 5 = .ok (.ireturn, 1) := by decide +kernel
theorem dX11_freeX_0 : decode cX11_freeX 0 = .ok (.iload_n 2, 1) := by decide +kernel
theorem dX11_freeX_1 : decode cX11_freeX 1 = .ok (.iconst 0, 1) := by decide +kernel
theorem dX11_freeX_2 : decode cX11_freeX 2 = .ok (.aload_n 0, 1) := by decide +kernel
theorem dX11_freeX_3 : decode cX11_freeX 3 = .ok (.iload_n 1, 1) := by decide +kernel
theorem dX11_freeX_4 : decode cX11_freeX 4 = .ok (.invokevirtual 301, 3) := by decide +kernel
theorem dX11_freeX_7 : decode cX11_freeX 7 = .ok (.iconst 1, 1) := by decide +kernel
theorem dX11_freeX_8 : decode cX11_freeX 8 = .ok (.isub, 1) := by decide +kernel
theorem dX11_freeX_9 : decode cX11_freeX 9 = .ok (.invokestatic 86, 3) := by decide +kernel
theorem dX11_freeX_12 : decode cX11_freeX 12 = .ok (.ifCond .eq 12, 3) := by decide +kernel
theorem dX11_freeX_15 : decode cX11_freeX 15 = .ok (.aload_n 0, 1) := by decide +kernel
theorem dX11_freeX_16 : decode cX11_freeX 16 = .ok (.getfield 62, 3) := by decide +kernel
theorem dX11_freeX_19 : decode cX11_freeX 19 = .ok (.iload_n 2, 1) := by decide +kernel
theorem dX11_freeX_20 : decode cX11_freeX 20 = .ok (.iaload, 1) := by decide +kernel
theorem dX11_freeX_21 : decode cX11_freeX 21 = .ok (.goto 4, 3) := by decide +kernel
theorem dX11_freeX_24 : decode cX11_freeX 24 = .ok (.iconst (-1), 1) := by decide +kernel
theorem dX11_freeX_25 : decode cX11_freeX 25 = .ok (.ireturn, 1) := by decide +kernel
theorem dX11_freeY_0 : decode cX11_freeY 0 = .ok (.iload_n 2, 1) := by decide +kernel
theorem dX11_freeY_1 : decode cX11_freeY 1 = .ok (.iconst 0, 1) := by decide +kernel
theorem dX11_freeY_2 : decode cX11_freeY 2 = .ok (.aload_n 0, 1) := by decide +kernel
theorem dX11_freeY_3 : decode cX11_freeY 3 = .ok (.iload_n 1, 1) := by decide +kernel
theorem dX11_freeY_4 : decode cX11_freeY 4 = .ok (.invokevirtual 301, 3) := by decide +kernel
theorem dX11_freeY_7 : decode cX11_freeY 7 = .ok (.iconst 1, 1) := by decide +kernel
theorem dX11_freeY_8 : decode cX11_freeY 8 = .ok (.isub, 1) := by decide +kernel
theorem dX11_freeY_9 : decode cX11_freeY 9 = .ok (.invokestatic 86, 3) := by decide +kernel
theorem dX11_freeY_12 : decode cX11_freeY 12 = .ok (.ifCond .eq 12, 3) := by decide +kernel
theorem dX11_freeY_15 : decode cX11_freeY 15 = .ok (.aload_n 0, 1) := by decide +kernel
theorem dX11_freeY_16 : decode cX11_freeY 16 = .ok (.getfield 65, 3) := by decide +kernel
theorem dX11_freeY_19 : decode cX11_freeY 19 = .ok (.iload_n 2, 1) := by decide +kernel
theorem dX11_freeY_20 : decode cX11_freeY 20 = .ok (.iaload, 1) := by decide +kernel
theorem dX11_freeY_21 : decode cX11_freeY 21 = .ok (.goto 4, 3) := by decide +kernel
theorem dX11_freeY_24 : decode cX11_freeY 24 = .ok (.iconst (-1), 1) := by decide +kernel
theorem dX11_freeY_25 : decode cX11_freeY 25 = .ok (.ireturn, 1) := by decide +kernel
theorem dX11_freeWidth_0 : decode cX11_freeWidth 0 = .ok (.iload_n 2, 1) := by decide +kernel
theorem dX11_freeWidth_1 : decode cX11_freeWidth 1 = .ok (.iconst 0, 1) := by decide +kernel
theorem dX11_freeWidth_2 : decode cX11_freeWidth 2 = .ok (.aload_n 0, 1) := by decide +kernel
theorem dX11_freeWidth_3 : decode cX11_freeWidth 3 = .ok (.iload_n 1, 1) := by decide +kernel
theorem dX11_freeWidth_4 : decode cX11_freeWidth 4 = .ok (.invokevirtual 301, 3) := by decide +kernel
theorem dX11_freeWidth_7 : decode cX11_freeWidth 7 = .ok (.iconst 1, 1) := by decide +kernel
theorem dX11_freeWidth_8 : decode cX11_freeWidth 8 = .ok (.isub, 1) := by decide +kernel
theorem dX11_freeWidth_9 : decode cX11_freeWidth 9 = .ok (.invokestatic 86, 3) := by decide +kernel
theorem dX11_freeWidth_12 : decode cX11_freeWidth 12 = .ok (.ifCond .eq 12, 3) := by decide +kernel
theorem dX11_freeWidth_15 : decode cX11_freeWidth 15 = .ok (.aload_n 0, 1) := by decide +kernel
theorem dX11_freeWidth_16 : decode cX11_freeWidth 16 = .ok (.getfield 68, 3) := by decide +kernel
theorem dX11_freeWidth_19 : decode cX11_freeWidth 19 = .ok (.iload_n 2, 1) := by decide +kernel
theorem dX11_freeWidth_20 : decode cX11_freeWidth 20 = .ok (.iaload, 1) := by decide +kernel
theorem dX11_freeWidth_21 : decode cX11_freeWidth 21 = .ok (.goto 4, 3) := by decide +kernel
theorem dX11_freeWidth_24 : decode cX11_freeWidth 24 = .ok (.iconst (-1), 1) := by decide +kernel
theorem dX11_freeWidth_25 : decode cX11_freeWidth 25 = .ok (.ireturn, 1) := by decide +kernel
theorem dX11_freeHeight_0 : decode cX11_freeHeight 0 = .ok (.iload_n 2, 1) := by decide +kernel
theorem dX11_freeHeight_1 : decode cX11_freeHeight 1 = .ok (.iconst 0, 1) := by decide +kernel
theorem dX11_freeHeight_2 : decode cX11_freeHeight 2 = .ok (.aload_n 0, 1) := by decide +kernel
theorem dX11_freeHeight_3 : decode cX11_freeHeight 3 = .ok (.iload_n 1, 1) := by decide +kernel
theorem dX11_freeHeight_4 : decode cX11_freeHeight 4 = .ok (.invokevirtual 301, 3) := by decide +kernel
theorem dX11_freeHeight_7 : decode cX11_freeHeight 7 = .ok (.iconst 1, 1) := by decide +kernel
theorem dX11_freeHeight_8 : decode cX11_freeHeight 8 = .ok (.isub, 1) := by decide +kernel
theorem dX11_freeHeight_9 : decode cX11_freeHeight 9 = .ok (.invokestatic 86, 3) := by decide +kernel
theorem dX11_freeHeight_12 : decode cX11_freeHeight 12 = .ok (.ifCond .eq 12, 3) := by decide +kernel
theorem dX11_freeHeight_15 : decode cX11_freeHeight 15 = .ok (.aload_n 0, 1) := by decide +kernel
theorem dX11_freeHeight_16 : decode cX11_freeHeight 16 = .ok (.getfield 71, 3) := by decide +kernel
theorem dX11_freeHeight_19 : decode cX11_freeHeight 19 = .ok (.iload_n 2, 1) := by decide +kernel
theorem dX11_freeHeight_20 : decode cX11_freeHeight 20 = .ok (.iaload, 1) := by decide +kernel
theorem dX11_freeHeight_21 : decode cX11_freeHeight 21 = .ok (.goto 4, 3) := by decide +kernel
theorem dX11_freeHeight_24 : decode cX11_freeHeight 24 = .ok (.iconst (-1), 1) := by decide +kernel
theorem dX11_freeHeight_25 : decode cX11_freeHeight 25 = .ok (.ireturn, 1) := by decide +kernel
theorem dX11_fill_0 : decode cX11_fill 0 = .ok (.aload_n 0, 1) := by decide +kernel
theorem dX11_fill_1 : decode cX11_fill 1 = .ok (.iload_n 1, 1) := by decide +kernel
theorem dX11_fill_2 : decode cX11_fill 2 = .ok (.invokevirtual 282, 3) := by decide +kernel
theorem dX11_fill_5 : decode cX11_fill 5 = .ok (.ifCond .ne 5, 3) := by decide +kernel
theorem dX11_fill_8 : decode cX11_fill 8 = .ok (.iconst (-1), 1) := by decide +kernel
theorem dX11_fill_9 : decode cX11_fill 9 = .ok (.ireturn, 1) := by decide +kernel
theorem dX11_fill_10 : decode cX11_fill 10 = .ok (.aload_n 0, 1) := by decide +kernel
theorem dX11_fill_11 : decode cX11_fill 11 = .ok (.invokevirtual 176, 3) := by decide +kernel
theorem dX11_fill_14 : decode cX11_fill 14 = .ok (.iconst 0, 1) := by decide +kernel
theorem dX11_fill_15 : decode cX11_fill 15 = .ok (.istore_n 3, 1) := by decide +kernel
theorem dX11_fill_16 : decode cX11_fill 16 = .ok (.iconst 0, 1) := by decide +kernel
theorem dX11_fill_17 : decode cX11_fill 17 = .ok (.istore 4, 2) := by decide +kernel
theorem dX11_fill_19 : decode cX11_fill 19 = .ok (.iload 4, 2) := by decide +kernel
theorem dX11_fill_21 : decode cX11_fill 21 = .ok (.aload_n 0, 1) := by decide +kernel
theorem dX11_fill_22 : decode cX11_fill 22 = .ok (.getfield 7, 3) := by decide +kernel
theorem dX11_fill_25 : decode cX11_fill 25 = .ok (.iconst 0, 1) := by decide +kernel
theorem dX11_fill_26 : decode cX11_fill 26 = .ok (.iaload, 1) := by decide +kernel
theorem dX11_fill_27 : decode cX11_fill 27 = .ok (.if_icmp .ge 46, 3) := by decide +kernel
theorem dX11_fill_30 : decode cX11_fill 30 = .ok (.iload_n 3, 1) := by decide +kernel
theorem dX11_fill_31 : decode cX11_fill 31 = .ok (.aload_n 0, 1) := by decide +kernel
theorem dX11_fill_32 : decode cX11_fill 32 = .ok (.getfield 7, 3) := by decide +kernel
theorem dX11_fill_35 : decode cX11_fill 35 = .ok (.iload 4, 2) := by decide +kernel
theorem dX11_fill_37 : decode cX11_fill 37 = .ok (.iconst 3, 1) := by decide +kernel
theorem dX11_fill_38 : decode cX11_fill 38 = .ok (.invokestatic 94, 3) := by decide +kernel
theorem dX11_fill_41 : decode cX11_fill 41 = .ok (.iaload, 1) := by decide +kernel
theorem dX11_fill_42 : decode cX11_fill 42 = .ok (.iload_n 1, 1) := by decide +kernel
theorem dX11_fill_43 : decode cX11_fill 43 = .ok (.if_icmp .ne 21, 3) := by decide +kernel
theorem dX11_fill_46 : decode cX11_fill 46 = .ok (.aload_n 0, 1) := by decide +kernel
theorem dX11_fill_47 : decode cX11_fill 47 = .ok (.getfield 38, 3) := by decide +kernel
theorem dX11_fill_50 : decode cX11_fill 50 = .ok (.iload 4, 2) := by decide +kernel
theorem dX11_fill_52 : decode cX11_fill 52 = .ok (.iaload, 1) := by decide +kernel
theorem dX11_fill_53 : decode cX11_fill 53 = .ok (.aload_n 0, 1) := by decide +kernel
theorem dX11_fill_54 : decode cX11_fill 54 = .ok (.getfield 41, 3) := by decide +kernel
theorem dX11_fill_57 : decode cX11_fill 57 = .ok (.iload 4, 2) := by decide +kernel
theorem dX11_fill_59 : decode cX11_fill 59 = .ok (.iaload, 1) := by decide +kernel
theorem dX11_fill_60 : decode cX11_fill 60 = .ok (.imul, 1) := by decide +kernel
theorem dX11_fill_61 : decode cX11_fill 61 = .ok (.goto 4, 3) := by decide +kernel
theorem dX11_fill_64 : decode cX11_fill 64 = .ok (.iconst 0, 1) := by decide +kernel
theorem dX11_fill_65 : decode cX11_fill 65 = .ok (.iadd, 1) := by decide +kernel
theorem dX11_fill_66 : decode cX11_fill 66 = .ok (.istore_n 3, 1) := by decide +kernel
theorem dX11_fill_67 : decode cX11_fill 67 = .ok (.iinc 4 1, 3) := by decide +kernel
theorem dX11_fill_70 : decode cX11_fill 70 = .ok (.goto (-51), 3) := by decide +kernel
theorem dX11_fill_73 : decode cX11_fill 73 = .ok (.aload_n 0, 1) := by decide +kernel
theorem dX11_fill_74 : decode cX11_fill 74 = .ok (.getfield 7, 3) := by decide +kernel
theorem dX11_fill_77 : decode cX11_fill 77 = .ok (.iconst 1, 1) := by decide +kernel
theorem dX11_fill_78 : decode cX11_fill 78 = .ok (.iaload, 1) := by decide +kernel
theorem dX11_fill_79 : decode cX11_fill 79 = .ok (.aload_n 0, 1) := by decide +kernel
theorem dX11_fill_80 : decode cX11_fill 80 = .ok (.getfield 7, 3) := by decide +kernel
theorem dX11_fill_83 : decode cX11_fill 83 = .ok (.iconst 2, 1) := by decide +kernel
theorem dX11_fill_84 : decode cX11_fill 84 = .ok (.iaload, 1) := by decide +kernel
theorem dX11_fill_85 : decode cX11_fill 85 = .ok (.imul, 1) := by decide +kernel
theorem dX11_fill_86 : decode cX11_fill 86 = .ok (.istore 4, 2) := by decide +kernel
theorem dX11_fill_88 : decode cX11_fill 88 = .ok (.iload_n 3, 1) := by decide +kernel
theorem dX11_fill_89 : decode cX11_fill 89 = .ok (.istore 5, 2) := by decide +kernel
theorem dX11_fill_91 : decode cX11_fill 91 = .ok (.iload 4, 2) := by decide +kernel
theorem dX11_fill_93 : decode cX11_fill 93 = .ok (.istore 6, 2) := by decide +kernel
theorem dX11_fill_95 : decode cX11_fill 95 = .ok (.iload 6, 2) := by decide +kernel
theorem dX11_fill_97 : decode cX11_fill 97 = .ok (.ifCond .eq 21, 3) := by decide +kernel
theorem dX11_fill_100 : decode cX11_fill 100 = .ok (.iload 5, 2) := by decide +kernel
theorem dX11_fill_102 : decode cX11_fill 102 = .ok (.iload 6, 2) := by decide +kernel
theorem dX11_fill_104 : decode cX11_fill 104 = .ok (.irem, 1) := by decide +kernel
theorem dX11_fill_105 : decode cX11_fill 105 = .ok (.istore 7, 2) := by decide +kernel
theorem dX11_fill_107 : decode cX11_fill 107 = .ok (.iload 6, 2) := by decide +kernel
theorem dX11_fill_109 : decode cX11_fill 109 = .ok (.istore 5, 2) := by decide +kernel
theorem dX11_fill_111 : decode cX11_fill 111 = .ok (.iload 7, 2) := by decide +kernel
theorem dX11_fill_113 : decode cX11_fill 113 = .ok (.istore 6, 2) := by decide +kernel
theorem dX11_fill_115 : decode cX11_fill 115 = .ok (.goto (-20), 3) := by decide +kernel
theorem dX11_fill_118 : decode cX11_fill 118 = .ok (.iload_n 2, 1) := by decide +kernel
theorem dX11_fill_119 : decode cX11_fill 119 = .ok (.ifCond .eq 11, 3) := by decide +kernel
theorem dX11_fill_122 : decode cX11_fill 122 = .ok (.iload 4, 2) := by decide +kernel
theorem dX11_fill_124 : decode cX11_fill 124 = .ok (.iload 5, 2) := by decide +kernel
theorem dX11_fill_126 : decode cX11_fill 126 = .ok (.idiv, 1) := by decide +kernel
theorem dX11_fill_127 : decode cX11_fill 127 = .ok (.goto 7, 3) := by decide +kernel
theorem dX11_fill_130 : decode cX11_fill 130 = .ok (.iload_n 3, 1) := by decide +kernel
theorem dX11_fill_131 : decode cX11_fill 131 = .ok (.iload 5, 2) := by decide +kernel
theorem dX11_fill_133 : decode cX11_fill 133 = .ok (.idiv, 1) := by decide +kernel
theorem dX11_fill_134 : decode cX11_fill 134 = .ok (.ireturn, 1) := by decide +kernel
theorem dX11_unplaced_0 : decode cX11_unplaced 0 = .ok (.aload_n 0, 1) := by decide +kernel
theorem dX11_unplaced_1 : decode cX11_unplaced 1 = .ok (.invokevirtual 176, 3) := by decide +kernel
theorem dX11_unplaced_4 : decode cX11_unplaced 4 = .ok (.iconst 0, 1) := by decide +kernel
theorem dX11_unplaced_5 : decode cX11_unplaced 5 = .ok (.istore_n 1, 1) := by decide +kernel
theorem dX11_unplaced_6 : decode cX11_unplaced 6 = .ok (.iconst 0, 1) := by decide +kernel
theorem dX11_unplaced_7 : decode cX11_unplaced 7 = .ok (.istore_n 2, 1) := by decide +kernel
theorem dX11_unplaced_8 : decode cX11_unplaced 8 = .ok (.iload_n 2, 1) := by decide +kernel
theorem dX11_unplaced_9 : decode cX11_unplaced 9 = .ok (.aload_n 0, 1) := by decide +kernel
theorem dX11_unplaced_10 : decode cX11_unplaced 10 = .ok (.getfield 7, 3) := by decide +kernel
theorem dX11_unplaced_13 : decode cX11_unplaced 13 = .ok (.iconst 0, 1) := by decide +kernel
theorem dX11_unplaced_14 : decode cX11_unplaced 14 = .ok (.iaload, 1) := by decide +kernel
theorem dX11_unplaced_15 : decode cX11_unplaced 15 = .ok (.if_icmp .ge 38, 3) := by decide +kernel
theorem dX11_unplaced_18 : decode cX11_unplaced 18 = .ok (.iload_n 1, 1) := by decide +kernel
theorem dX11_unplaced_19 : decode cX11_unplaced 19 = .ok (.aload_n 0, 1) := by decide +kernel
theorem dX11_unplaced_20 : decode cX11_unplaced 20 = .ok (.iload_n 2, 1) := by decide +kernel
theorem dX11_unplaced_21 : decode cX11_unplaced 21 = .ok (.invokevirtual 248, 3) := by decide +kernel
theorem dX11_unplaced_24 : decode cX11_unplaced 24 = .ok (.ifCond .eq 20, 3) := by decide +kernel
theorem dX11_unplaced_27 : decode cX11_unplaced 27 = .ok (.aload_n 0, 1) := by decide +kernel
theorem dX11_unplaced_28 : decode cX11_unplaced 28 = .ok (.getfield 7, 3) := by decide +kernel
theorem dX11_unplaced_31 : decode cX11_unplaced 31 = .ok (.iload_n 2, 1) := by decide +kernel
theorem dX11_unplaced_32 : decode cX11_unplaced 32 = .ok (.iconst 3, 1) := by decide +kernel
theorem dX11_unplaced_33 : decode cX11_unplaced 33 = .ok (.invokestatic 94, 3) := by decide +kernel
theorem dX11_unplaced_36 : decode cX11_unplaced 36 = .ok (.iaload, 1) := by decide +kernel
theorem dX11_unplaced_37 : decode cX11_unplaced 37 = .ok (.ifCond .ge 7, 3) := by decide +kernel
theorem dX11_unplaced_40 : decode cX11_unplaced 40 = .ok (.iconst 1, 1) := by decide +kernel
theorem dX11_unplaced_41 : decode cX11_unplaced 41 = .ok (.goto 4, 3) := by decide +kernel
theorem dX11_unplaced_44 : decode cX11_unplaced 44 = .ok (.iconst 0, 1) := by decide +kernel
theorem dX11_unplaced_45 : decode cX11_unplaced 45 = .ok (.iadd, 1) := by decide +kernel
theorem dX11_unplaced_46 : decode cX11_unplaced 46 = .ok (.istore_n 1, 1) := by decide +kernel
theorem dX11_unplaced_47 : decode cX11_unplaced 47 = .ok (.iinc 2 1, 3) := by decide +kernel
theorem dX11_unplaced_50 : decode cX11_unplaced 50 = .ok (.goto (-42), 3) := by decide +kernel
theorem dX11_unplaced_53 : decode cX11_unplaced 53 = .ok (.iload_n 1, 1) := by decide +kernel
theorem dX11_unplaced_54 : decode cX11_unplaced 54 = .ok (.ireturn, 1) := by decide +kernel
theorem dX11_pageBound_0 : decode cX11_pageBound 0 = .ok (.aload_n 0, 1) := by decide +kernel
theorem dX11_pageBound_1 : decode cX11_pageBound 1 = .ok (.invokevirtual 176, 3) := by decide +kernel
theorem dX11_pageBound_4 : decode cX11_pageBound 4 = .ok (.iconst 0, 1) := by decide +kernel
theorem dX11_pageBound_5 : decode cX11_pageBound 5 = .ok (.istore_n 1, 1) := by decide +kernel
theorem dX11_pageBound_6 : decode cX11_pageBound 6 = .ok (.iconst 0, 1) := by decide +kernel
theorem dX11_pageBound_7 : decode cX11_pageBound 7 = .ok (.istore_n 2, 1) := by decide +kernel
theorem dX11_pageBound_8 : decode cX11_pageBound 8 = .ok (.iload_n 2, 1) := by decide +kernel
theorem dX11_pageBound_9 : decode cX11_pageBound 9 = .ok (.aload_n 0, 1) := by decide +kernel
theorem dX11_pageBound_10 : decode cX11_pageBound 10 = .ok (.getfield 7, 3) := by decide +kernel
theorem dX11_pageBound_13 : decode cX11_pageBound 13 = .ok (.iconst 0, 1) := by decide +kernel
theorem dX11_pageBound_14 : decode cX11_pageBound 14 = .ok (.iaload, 1) := by decide +kernel
theorem dX11_pageBound_15 : decode cX11_pageBound 15 = .ok (.if_icmp .ge 37, 3) := by decide +kernel
theorem dX11_pageBound_18 : decode cX11_pageBound 18 = .ok (.iload_n 1, 1) := by decide +kernel
theorem dX11_pageBound_19 : decode cX11_pageBound 19 = .ok (.aload_n 0, 1) := by decide +kernel
theorem dX11_pageBound_20 : decode cX11_pageBound 20 = .ok (.iload_n 2, 1) := by decide +kernel
theorem dX11_pageBound_21 : decode cX11_pageBound 21 = .ok (.invokevirtual 248, 3) := by decide +kernel
theorem dX11_pageBound_24 : decode cX11_pageBound 24 = .ok (.ifCond .eq 19, 3) := by decide +kernel
theorem dX11_pageBound_27 : decode cX11_pageBound 27 = .ok (.aload_n 0, 1) := by decide +kernel
theorem dX11_pageBound_28 : decode cX11_pageBound 28 = .ok (.iload_n 2, 1) := by decide +kernel
theorem dX11_pageBound_29 : decode cX11_pageBound 29 = .ok (.iconst 0, 1) := by decide +kernel
theorem dX11_pageBound_30 : decode cX11_pageBound 30 = .ok (.invokevirtual 188, 3) := by decide +kernel
theorem dX11_pageBound_33 : decode cX11_pageBound 33 = .ok (.aload_n 0, 1) := by decide +kernel
theorem dX11_pageBound_34 : decode cX11_pageBound 34 = .ok (.iload_n 2, 1) := by decide +kernel
theorem dX11_pageBound_35 : decode cX11_pageBound 35 = .ok (.iconst 0, 1) := by decide +kernel
theorem dX11_pageBound_36 : decode cX11_pageBound 36 = .ok (.invokevirtual 191, 3) := by decide +kernel
theorem dX11_pageBound_39 : decode cX11_pageBound 39 = .ok (.imul, 1) := by decide +kernel
theorem dX11_pageBound_40 : decode cX11_pageBound 40 = .ok (.goto 4, 3) := by decide +kernel
theorem dX11_pageBound_43 : decode cX11_pageBound 43 = .ok (.iconst 0, 1) := by decide +kernel
theorem dX11_pageBound_44 : decode cX11_pageBound 44 = .ok (.iadd, 1) := by decide +kernel
theorem dX11_pageBound_45 : decode cX11_pageBound 45 = .ok (.istore_n 1, 1) := by decide +kernel
theorem dX11_pageBound_46 : decode cX11_pageBound 46 = .ok (.iinc 2 1, 3) := by decide +kernel
theorem dX11_pageBound_49 : decode cX11_pageBound 49 = .ok (.goto (-41), 3) := by decide +kernel
theorem dX11_pageBound_52 : decode cX11_pageBound 52 = .ok (.iload_n 1, 1) := by decide +kernel
theorem dX11_pageBound_53 : decode cX11_pageBound 53 = .ok (.ifCond .ne 5, 3) := by decide +kernel
theorem dX11_pageBound_56 : decode cX11_pageBound 56 = .ok (.iconst 0, 1) := by decide +kernel
theorem dX11_pageBound_57 : decode cX11_pageBound 57 = .ok (.ireturn, 1) := by decide +kernel
theorem dX11_pageBound_58 : decode cX11_pageBound 58 = .ok (.aload_n 0, 1) := by decide +kernel
theorem dX11_pageBound_59 : decode cX11_pageBound 59 = .ok (.invokevirtual 197, 3) := by decide +kernel
theorem dX11_pageBound_62 : decode cX11_pageBound 62 = .ok (.ifCond .le 10, 3) := by decide +kernel
theorem dX11_pageBound_65 : decode cX11_pageBound 65 = .ok (.aload_n 0, 1) := by decide +kernel
theorem dX11_pageBound_66 : decode cX11_pageBound 66 = .ok (.invokevirtual 210, 3) := by decide +kernel
theorem dX11_pageBound_69 : decode cX11_pageBound 69 = .ok (.ifCond .gt 6, 3) := by decide +kernel
theorem dX11_pageBound_72 : decode cX11_pageBound 72 = .ok (.bipush (-4), 2) := by decide +kernel
theorem dX11_pageBound_74 : decode cX11_pageBound 74 = .ok (.ireturn, 1) := by decide +kernel
theorem dX11_pageBound_75 : decode cX11_pageBound 75 = .ok (.aload_n 0, 1) := by decide +kernel
theorem dX11_pageBound_76 : decode cX11_pageBound 76 = .ok (.invokevirtual 197, 3) := by decide +kernel
theorem dX11_pageBound_79 : decode cX11_pageBound 79 = .ok (.aload_n 0, 1) := by decide +kernel
theorem dX11_pageBound_80 : decode cX11_pageBound 80 = .ok (.invokevirtual 210, 3) := by decide +kernel
theorem dX11_pageBound_83 : decode cX11_pageBound 83 = .ok (.imul, 1) := by decide +kernel
theorem dX11_pageBound_84 : decode cX11_pageBound 84 = .ok (.istore_n 2, 1) := by decide +kernel
theorem dX11_pageBound_85 : decode cX11_pageBound 85 = .ok (.iload_n 1, 1) := by decide +kernel
theorem dX11_pageBound_86 : decode cX11_pageBound 86 = .ok (.iload_n 2, 1) := by decide +kernel
theorem dX11_pageBound_87 : decode cX11_pageBound 87 = .ok (.iadd, 1) := by decide +kernel
theorem dX11_pageBound_88 : decode cX11_pageBound 88 = .ok (.iconst 1, 1) := by decide +kernel
theorem dX11_pageBound_89 : decode cX11_pageBound 89 = .ok (.isub, 1) := by decide +kernel
theorem dX11_pageBound_90 : decode cX11_pageBound 90 = .ok (.iload_n 2, 1) := by decide +kernel
theorem dX11_pageBound_91 : decode cX11_pageBound 91 = .ok (.idiv, 1) := by decide +kernel
theorem dX11_pageBound_92 : decode cX11_pageBound 92 = .ok (.ireturn, 1) := by decide +kernel
theorem dX11_usedByAll_0 : decode cX11_usedByAll 0 = .ok (.iconst 0, 1) := by decide +kernel
theorem dX11_usedByAll_1 : decode cX11_usedByAll 1 = .ok (.istore_n 1, 1) := by decide +kernel
theorem dX11_usedByAll_2 : decode cX11_usedByAll 2 = .ok (.iconst 0, 1) := by decide +kernel
theorem dX11_usedByAll_3 : decode cX11_usedByAll 3 = .ok (.istore_n 2, 1) := by decide +kernel
theorem dX11_usedByAll_4 : decode cX11_usedByAll 4 = .ok (.iload_n 2, 1) := by decide +kernel
theorem dX11_usedByAll_5 : decode cX11_usedByAll 5 = .ok (.aload_n 0, 1) := by decide +kernel
theorem dX11_usedByAll_6 : decode cX11_usedByAll 6 = .ok (.getfield 7, 3) := by decide +kernel
theorem dX11_usedByAll_9 : decode cX11_usedByAll 9 = .ok (.bipush 13, 2) := by decide +kernel
theorem dX11_usedByAll_11 : decode cX11_usedByAll 11 = .ok (.iaload, 1) := by decide +kernel
theorem dX11_usedByAll_12 : decode cX11_usedByAll 12 = .ok (.if_icmp .ge 25, 3) := by decide +kernel
theorem dX11_usedByAll_15 : decode cX11_usedByAll 15 = .ok (.iload_n 1, 1) := by decide +kernel
theorem dX11_usedByAll_16 : decode cX11_usedByAll 16 = .ok (.aload_n 0, 1) := by decide +kernel
theorem dX11_usedByAll_17 : decode cX11_usedByAll 17 = .ok (.iload_n 2, 1) := by decide +kernel
theorem dX11_usedByAll_18 : decode cX11_usedByAll 18 = .ok (.iconst 1, 1) := by decide +kernel
theorem dX11_usedByAll_19 : decode cX11_usedByAll 19 = .ok (.invokevirtual 297, 3) := by decide +kernel
theorem dX11_usedByAll_22 : decode cX11_usedByAll 22 = .ok (.aload_n 0, 1) := by decide +kernel
theorem dX11_usedByAll_23 : decode cX11_usedByAll 23 = .ok (.iload_n 2, 1) := by decide +kernel
theorem dX11_usedByAll_24 : decode cX11_usedByAll 24 = .ok (.iconst 0, 1) := by decide +kernel
theorem dX11_usedByAll_25 : decode cX11_usedByAll 25 = .ok (.invokevirtual 297, 3) := by decide +kernel
theorem dX11_usedByAll_28 : decode cX11_usedByAll 28 = .ok (.imul, 1) := by decide +kernel
theorem dX11_usedByAll_29 : decode cX11_usedByAll 29 = .ok (.iadd, 1) := by decide +kernel
theorem dX11_usedByAll_30 : decode cX11_usedByAll 30 = .ok (.istore_n 1, 1) := by decide +kernel
theorem dX11_usedByAll_31 : decode cX11_usedByAll 31 = .ok (.iinc 2 1, 3) := by decide +kernel
theorem dX11_usedByAll_34 : decode cX11_usedByAll 34 = .ok (.goto (-30), 3) := by decide +kernel
theorem dX11_usedByAll_37 : decode cX11_usedByAll 37 = .ok (.iload_n 1, 1) := by decide +kernel
theorem dX11_usedByAll_38 : decode cX11_usedByAll 38 = .ok (.ireturn, 1) := by decide +kernel
theorem dX11_bestMethod_0 : decode cX11_bestMethod 0 = .ok (.aload_n 0, 1) := by decide +kernel
theorem dX11_bestMethod_1 : decode cX11_bestMethod 1 = .ok (.invokevirtual 176, 3) := by decide +kernel
theorem dX11_bestMethod_4 : decode cX11_bestMethod 4 = .ok (.aload_n 0, 1) := by decide +kernel
theorem dX11_bestMethod_5 : decode cX11_bestMethod 5 = .ok (.invokevirtual 260, 3) := by decide +kernel
theorem dX11_bestMethod_8 : decode cX11_bestMethod 8 = .ok (.iconst (-1), 1) := by decide +kernel
theorem dX11_bestMethod_9 : decode cX11_bestMethod 9 = .ok (.istore_n 1, 1) := by decide +kernel
theorem dX11_bestMethod_10 : decode cX11_bestMethod 10 = .ok (.iconst 0, 1) := by decide +kernel
theorem dX11_bestMethod_11 : decode cX11_bestMethod 11 = .ok (.istore_n 2, 1) := by decide +kernel
theorem dX11_bestMethod_12 : decode cX11_bestMethod 12 = .ok (.iconst 0, 1) := by decide +kernel
theorem dX11_bestMethod_13 : decode cX11_bestMethod 13 = .ok (.istore_n 3, 1) := by decide +kernel
theorem dX11_bestMethod_14 : decode cX11_bestMethod 14 = .ok (.iconst 0, 1) := by decide +kernel
theorem dX11_bestMethod_15 : decode cX11_bestMethod 15 = .ok (.istore 4, 2) := by decide +kernel
theorem dX11_bestMethod_17 : decode cX11_bestMethod 17 = .ok (.iconst 0, 1) := by decide +kernel
theorem dX11_bestMethod_18 : decode cX11_bestMethod 18 = .ok (.istore 5, 2) := by decide +kernel
theorem dX11_bestMethod_20 : decode cX11_bestMethod 20 = .ok (.iload 5, 2) := by decide +kernel
theorem dX11_bestMethod_22 : decode cX11_bestMethod 22 = .ok (.bipush 16, 2) := by decide +kernel
theorem dX11_bestMethod_24 : decode cX11_bestMethod 24 = .ok (.if_icmp .ge 134, 3) := by decide +kernel
theorem dX11_bestMethod_27 : decode cX11_bestMethod 27 = .ok (.aload_n 0, 1) := by decide +kernel
theorem dX11_bestMethod_28 : decode cX11_bestMethod 28 = .ok (.getfield 7, 3) := by decide +kernel
theorem dX11_bestMethod_31 : decode cX11_bestMethod 31 = .ok (.bipush 11, 2) := by decide +kernel
theorem dX11_bestMethod_33 : decode cX11_bestMethod 33 = .ok (.iload 5, 2) := by decide +kernel
theorem dX11_bestMethod_35 : decode cX11_bestMethod 35 = .ok (.iconst 4, 1) := by decide +kernel
theorem dX11_bestMethod_36 : decode cX11_bestMethod 36 = .ok (.idiv, 1) := by decide +kernel
theorem dX11_bestMethod_37 : decode cX11_bestMethod 37 = .ok (.iastore, 1) := by decide +kernel
theorem dX11_bestMethod_38 : decode cX11_bestMethod 38 = .ok (.aload_n 0, 1) := by decide +kernel
theorem dX11_bestMethod_39 : decode cX11_bestMethod 39 = .ok (.getfield 7, 3) := by decide +kernel
theorem dX11_bestMethod_42 : decode cX11_bestMethod 42 = .ok (.bipush 12, 2) := by decide +kernel
theorem dX11_bestMethod_44 : decode cX11_bestMethod 44 = .ok (.iload 5, 2) := by decide +kernel
theorem dX11_bestMethod_46 : decode cX11_bestMethod 46 = .ok (.iconst 4, 1) := by decide +kernel
theorem dX11_bestMethod_47 : decode cX11_bestMethod 47 = .ok (.irem, 1) := by decide +kernel
theorem dX11_bestMethod_48 : decode cX11_bestMethod 48 = .ok (.iastore, 1) := by decide +kernel
theorem dX11_bestMethod_49 : decode cX11_bestMethod 49 = .ok (.aload_n 0, 1) := by decide +kernel
theorem dX11_bestMethod_50 : decode cX11_bestMethod 50 = .ok (.invokevirtual 257, 3) := by decide +kernel
theorem dX11_bestMethod_53 : decode cX11_bestMethod 53 = .ok (.istore 6, 2) := by decide +kernel
theorem dX11_bestMethod_55 : decode cX11_bestMethod 55 = .ok (.aload_n 0, 1) := by decide +kernel
theorem dX11_bestMethod_56 : decode cX11_bestMethod 56 = .ok (.invokevirtual 304, 3) := by decide +kernel
theorem dX11_bestMethod_59 : decode cX11_bestMethod 59 = .ok (.istore 7, 2) := by decide +kernel
theorem dX11_bestMethod_61 : decode cX11_bestMethod 61 = .ok (.iload_n 1, 1) := by decide +kernel
theorem dX11_bestMethod_62 : decode cX11_bestMethod 62 = .ok (.ifCond .lt 13, 3) := by decide +kernel
theorem dX11_bestMethod_65 : decode cX11_bestMethod 65 = .ok (.iload 6, 2) := by decide +kernel
theorem dX11_bestMethod_67 : decode cX11_bestMethod 67 = .ok (.iload_n 2, 1) := by decide +kernel
theorem dX11_bestMethod_68 : decode cX11_bestMethod 68 = .ok (.if_icmp .ne 7, 3) := by decide +kernel
theorem dX11_bestMethod_71 : decode cX11_bestMethod 71 = .ok (.iconst 1, 1) := by decide +kernel
theorem dX11_bestMethod_72 : decode cX11_bestMethod 72 = .ok (.goto 4, 3) := by decide +kernel
theorem dX11_bestMethod_75 : decode cX11_bestMethod 75 = .ok (.iconst 0, 1) := by decide +kernel
theorem dX11_bestMethod_76 : decode cX11_bestMethod 76 = .ok (.istore 8, 2) := by decide +kernel
theorem dX11_bestMethod_78 : decode cX11_bestMethod 78 = .ok (.iload_n 1, 1) := by decide +kernel
theorem dX11_bestMethod_79 : decode cX11_bestMethod 79 = .ok (.ifCond .lt 43, 3) := by decide +kernel
theorem dX11_bestMethod_82 : decode cX11_bestMethod 82 = .ok (.iload 6, 2) := by decide +kernel
theorem dX11_bestMethod_84 : decode cX11_bestMethod 84 = .ok (.iload_n 2, 1) := by decide +kernel
theorem dX11_bestMethod_85 : decode cX11_bestMethod 85 = .ok (.if_icmp .lt 37, 3) := by decide +kernel
theorem dX11_bestMethod_88 : decode cX11_bestMethod 88 = .ok (.iload 8, 2) := by decide +kernel
theorem dX11_bestMethod_90 : decode cX11_bestMethod 90 = .ok (.ifCond .eq 36, 3) := by decide +kernel
theorem dX11_bestMethod_93 : decode cX11_bestMethod 93 = .ok (.aload_n 0, 1) := by decide +kernel
theorem dX11_bestMethod_94 : decode cX11_bestMethod 94 = .ok (.getfield 7, 3) := by decide +kernel
theorem dX11_bestMethod_97 : decode cX11_bestMethod 97 = .ok (.bipush 13, 2) := by decide +kernel
theorem dX11_bestMethod_99 : decode cX11_bestMethod 99 = .ok (.iaload, 1) := by decide +kernel
theorem dX11_bestMethod_100 : decode cX11_bestMethod 100 = .ok (.iload_n 3, 1) := by decide +kernel
theorem dX11_bestMethod_101 : decode cX11_bestMethod 101 = .ok (.if_icmp .lt 21, 3) := by decide +kernel
theorem dX11_bestMethod_104 : decode cX11_bestMethod 104 = .ok (.aload_n 0, 1) := by decide +kernel
theorem dX11_bestMethod_105 : decode cX11_bestMethod 105 = .ok (.getfield 7, 3) := by decide +kernel
theorem dX11_bestMethod_108 : decode cX11_bestMethod 108 = .ok (.bipush 13, 2) := by decide +kernel
theorem dX11_bestMethod_110 : decode cX11_bestMethod 110 = .ok (.iaload, 1) := by decide +kernel
theorem dX11_bestMethod_111 : decode cX11_bestMethod 111 = .ok (.iload_n 3, 1) := by decide +kernel
theorem dX11_bestMethod_112 : decode cX11_bestMethod 112 = .ok (.if_icmp .ne 14, 3) := by decide +kernel
theorem dX11_bestMethod_115 : decode cX11_bestMethod 115 = .ok (.iload 7, 2) := by decide +kernel
theorem dX11_bestMethod_117 : decode cX11_bestMethod 117 = .ok (.iload 4, 2) := by decide +kernel
theorem dX11_bestMethod_119 : decode cX11_bestMethod 119 = .ok (.if_icmp .ge 7, 3) := by decide +kernel
theorem dX11_bestMethod_122 : decode cX11_bestMethod 122 = .ok (.iconst 1, 1) := by decide +kernel
theorem dX11_bestMethod_123 : decode cX11_bestMethod 123 = .ok (.goto 4, 3) := by decide +kernel
theorem dX11_bestMethod_126 : decode cX11_bestMethod 126 = .ok (.iconst 0, 1) := by decide +kernel
theorem dX11_bestMethod_127 : decode cX11_bestMethod 127 = .ok (.istore 9, 2) := by decide +kernel
theorem dX11_bestMethod_129 : decode cX11_bestMethod 129 = .ok (.iload 9, 2) := by decide +kernel
theorem dX11_bestMethod_131 : decode cX11_bestMethod 131 = .ok (.ifCond .eq 21, 3) := by decide +kernel
theorem dX11_bestMethod_134 : decode cX11_bestMethod 134 = .ok (.iload 5, 2) := by decide +kernel
theorem dX11_bestMethod_136 : decode cX11_bestMethod 136 = .ok (.istore_n 1, 1) := by decide +kernel
theorem dX11_bestMethod_137 : decode cX11_bestMethod 137 = .ok (.iload 6, 2) := by decide +kernel
theorem dX11_bestMethod_139 : decode cX11_bestMethod 139 = .ok (.istore_n 2, 1) := by decide +kernel
theorem dX11_bestMethod_140 : decode cX11_bestMethod 140 = .ok (.aload_n 0, 1) := by decide +kernel
theorem dX11_bestMethod_141 : decode cX11_bestMethod 141 = .ok (.getfield 7, 3) := by decide +kernel
theorem dX11_bestMethod_144 : decode cX11_bestMethod 144 = .ok (.bipush 13, 2) := by decide +kernel
theorem dX11_bestMethod_146 : decode cX11_bestMethod 146 = .ok (.iaload, 1) := by decide +kernel
theorem dX11_bestMethod_147 : decode cX11_bestMethod 147 = .ok (.istore_n 3, 1) := by decide +kernel
theorem dX11_bestMethod_148 : decode cX11_bestMethod 148 = .ok (.iload 7, 2) := by decide +kernel
theorem dX11_bestMethod_150 : decode cX11_bestMethod 150 = .ok (.istore 4, 2) := by decide +kernel
theorem dX11_bestMethod_152 : decode cX11_bestMethod 152 = .ok (.iinc 5 1, 3) := by decide +kernel
theorem dX11_bestMethod_155 : decode cX11_bestMethod 155 = .ok (.goto (-135), 3) := by decide +kernel
theorem dX11_bestMethod_158 : decode cX11_bestMethod 158 = .ok (.aload_n 0, 1) := by decide +kernel
theorem dX11_bestMethod_159 : decode cX11_bestMethod 159 = .ok (.invokevirtual 267, 3) := by decide +kernel
theorem dX11_bestMethod_162 : decode cX11_bestMethod 162 = .ok (.bipush 10, 2) := by decide +kernel
theorem dX11_bestMethod_164 : decode cX11_bestMethod 164 = .ok (.iload_n 1, 1) := by decide +kernel
theorem dX11_bestMethod_165 : decode cX11_bestMethod 165 = .ok (.iconst 4, 1) := by decide +kernel
theorem dX11_bestMethod_166 : decode cX11_bestMethod 166 = .ok (.idiv, 1) := by decide +kernel
theorem dX11_bestMethod_167 : decode cX11_bestMethod 167 = .ok (.imul, 1) := by decide +kernel
theorem dX11_bestMethod_168 : decode cX11_bestMethod 168 = .ok (.iload_n 1, 1) := by decide +kernel
theorem dX11_bestMethod_169 : decode cX11_bestMethod 169 = .ok (.iconst 4, 1) := by decide +kernel
theorem dX11_bestMethod_170 : decode cX11_bestMethod 170 = .ok (.irem, 1) := by decide +kernel
theorem dX11_bestMethod_171 : decode cX11_bestMethod 171 = .ok (.iadd, 1) := by decide +kernel
theorem dX11_bestMethod_172 : decode cX11_bestMethod 172 = .ok (.ireturn, 1) := by decide +kernel
theorem dX11_smallestPage_0 : decode cX11_smallestPage 0 = .ok (.aload_n 0, 1) := by decide +kernel
theorem dX11_smallestPage_1 : decode cX11_smallestPage 1 = .ok (.invokevirtual 176, 3) := by decide +kernel
theorem dX11_smallestPage_4 : decode cX11_smallestPage 4 = .ok (.aload_n 0, 1) := by decide +kernel
theorem dX11_smallestPage_5 : decode cX11_smallestPage 5 = .ok (.invokevirtual 260, 3) := by decide +kernel
theorem dX11_smallestPage_8 : decode cX11_smallestPage 8 = .ok (.aload_n 0, 1) := by decide +kernel
theorem dX11_smallestPage_9 : decode cX11_smallestPage 9 = .ok (.getfield 7, 3) := by decide +kernel
theorem dX11_smallestPage_12 : decode cX11_smallestPage 12 = .ok (.iconst 3, 1) := by decide +kernel
theorem dX11_smallestPage_13 : decode cX11_smallestPage 13 = .ok (.iconst 1, 1) := by decide +kernel
theorem dX11_smallestPage_14 : decode cX11_smallestPage 14 = .ok (.iastore, 1) := by decide +kernel
theorem dX11_smallestPage_15 : decode cX11_smallestPage 15 = .ok (.aload_n 0, 1) := by decide +kernel
theorem dX11_smallestPage_16 : decode cX11_smallestPage 16 = .ok (.getfield 7, 3) := by decide +kernel
theorem dX11_smallestPage_19 : decode cX11_smallestPage 19 = .ok (.bipush 10, 2) := by decide +kernel
theorem dX11_smallestPage_21 : decode cX11_smallestPage 21 = .ok (.iconst 0, 1) := by decide +kernel
theorem dX11_smallestPage_22 : decode cX11_smallestPage 22 = .ok (.iastore, 1) := by decide +kernel
theorem dX11_smallestPage_23 : decode cX11_smallestPage 23 = .ok (.bipush (-4), 2) := by decide +kernel
theorem dX11_smallestPage_25 : decode cX11_smallestPage 25 = .ok (.istore_n 1, 1) := by decide +kernel
theorem dX11_smallestPage_26 : decode cX11_smallestPage 26 = .ok (.iconst 4, 1) := by decide +kernel
theorem dX11_smallestPage_27 : decode cX11_smallestPage 27 = .ok (.istore_n 2, 1) := by decide +kernel
theorem dX11_smallestPage_28 : decode cX11_smallestPage 28 = .ok (.iload_n 2, 1) := by decide +kernel
theorem dX11_smallestPage_29 : decode cX11_smallestPage 29 = .ok (.bipush 32, 2) := by decide +kernel
theorem dX11_smallestPage_31 : decode cX11_smallestPage 31 = .ok (.if_icmp .gt 40, 3) := by decide +kernel
theorem dX11_smallestPage_34 : decode cX11_smallestPage 34 = .ok (.iload_n 1, 1) := by decide +kernel
theorem dX11_smallestPage_35 : decode cX11_smallestPage 35 = .ok (.ifCond .ge 36, 3) := by decide +kernel
theorem dX11_smallestPage_38 : decode cX11_smallestPage 38 = .ok (.aload_n 0, 1) := by decide +kernel
theorem dX11_smallestPage_39 : decode cX11_smallestPage 39 = .ok (.getfield 7, 3) := by decide +kernel
theorem dX11_smallestPage_42 : decode cX11_smallestPage 42 = .ok (.iconst 1, 1) := by decide +kernel
theorem dX11_smallestPage_43 : decode cX11_smallestPage 43 = .ok (.iload_n 2, 1) := by decide +kernel
theorem dX11_smallestPage_44 : decode cX11_smallestPage 44 = .ok (.iastore, 1) := by decide +kernel
theorem dX11_smallestPage_45 : decode cX11_smallestPage 45 = .ok (.aload_n 0, 1) := by decide +kernel
theorem dX11_smallestPage_46 : decode cX11_smallestPage 46 = .ok (.getfield 7, 3) := by decide +kernel
theorem dX11_smallestPage_49 : decode cX11_smallestPage 49 = .ok (.iconst 2, 1) := by decide +kernel
theorem dX11_smallestPage_50 : decode cX11_smallestPage 50 = .ok (.iload_n 2, 1) := by decide +kernel
theorem dX11_smallestPage_51 : decode cX11_smallestPage 51 = .ok (.iastore, 1) := by decide +kernel
theorem dX11_smallestPage_52 : decode cX11_smallestPage 52 = .ok (.aload_n 0, 1) := by decide +kernel
theorem dX11_smallestPage_53 : decode cX11_smallestPage 53 = .ok (.invokevirtual 257, 3) := by decide +kernel
theorem dX11_smallestPage_56 : decode cX11_smallestPage 56 = .ok (.ifCond .ne 7, 3) := by decide +kernel
theorem dX11_smallestPage_59 : decode cX11_smallestPage 59 = .ok (.iload_n 2, 1) := by decide +kernel
theorem dX11_smallestPage_60 : decode cX11_smallestPage 60 = .ok (.goto 4, 3) := by decide +kernel
theorem dX11_smallestPage_63 : decode cX11_smallestPage 63 = .ok (.iload_n 1, 1) := by decide +kernel
theorem dX11_smallestPage_64 : decode cX11_smallestPage 64 = .ok (.istore_n 1, 1) := by decide +kernel
theorem dX11_smallestPage_65 : decode cX11_smallestPage 65 = .ok (.iinc 2 1, 3) := by decide +kernel
theorem dX11_smallestPage_68 : decode cX11_smallestPage 68 = .ok (.goto (-40), 3) := by decide +kernel
theorem dX11_smallestPage_71 : decode cX11_smallestPage 71 = .ok (.aload_n 0, 1) := by decide +kernel
theorem dX11_smallestPage_72 : decode cX11_smallestPage 72 = .ok (.invokevirtual 267, 3) := by decide +kernel
theorem dX11_smallestPage_75 : decode cX11_smallestPage 75 = .ok (.iload_n 1, 1) := by decide +kernel
theorem dX11_smallestPage_76 : decode cX11_smallestPage 76 = .ok (.ireturn, 1) := by decide +kernel
theorem dX11_sign_0 : decode cX11_sign 0 = .ok (.aload_n 0, 1) := by decide +kernel
theorem dX11_sign_1 : decode cX11_sign 1 = .ok (.getfield 29, 3) := by decide +kernel
theorem dX11_sign_4 : decode cX11_sign 4 = .ok (.aload_n 0, 1) := by decide +kernel
theorem dX11_sign_5 : decode cX11_sign 5 = .ok (.getfield 307, 3) := by decide +kernel
theorem dX11_sign_8 : decode cX11_sign 8 = .ok (.iload_n 1, 1) := by decide +kernel
theorem dX11_sign_9 : decode cX11_sign 9 = .ok (.iastore, 1) := by decide +kernel
theorem dX11_sign_10 : decode cX11_sign 10 = .ok (.aload_n 0, 1) := by decide +kernel
theorem dX11_sign_11 : decode cX11_sign 11 = .ok (.dup, 1) := by decide +kernel
theorem dX11_sign_12 : decode cX11_sign 12 = .ok (.getfield 307, 3) := by decide +kernel
theorem dX11_sign_15 : decode cX11_sign 15 = .ok (.iconst 1, 1) := by decide +kernel
theorem dX11_sign_16 : decode cX11_sign 16 = .ok (.iadd, 1) := by decide +kernel
theorem dX11_sign_17 : decode cX11_sign 17 = .ok (.putfield 307, 3) := by decide +kernel
theorem dX11_sign_20 : decode cX11_sign 20 = .ok (.return_, 1) := by decide +kernel
theorem dX11_number_0 : decode cX11_number 0 = .ok (.iload_n 1, 1) := by decide +kernel
theorem dX11_number_1 : decode cX11_number 1 = .ok (.bipush 9, 2) := by decide +kernel
theorem dX11_number_3 : decode cX11_number 3 = .ok (.if_icmp .le 14, 3) := by decide +kernel
theorem dX11_number_6 : decode cX11_number 6 = .ok (.aload_n 0, 1) := by decide +kernel
theorem dX11_number_7 : decode cX11_number 7 = .ok (.bipush 48, 2) := by decide +kernel
theorem dX11_number_9 : decode cX11_number 9 = .ok (.iload_n 1, 1) := by decide +kernel
theorem dX11_number_10 : decode cX11_number 10 = .ok (.bipush 10, 2) := by decide +kernel
theorem dX11_number_12 : decode cX11_number 12 = .ok (.idiv, 1) := by decide +kernel
theorem dX11_number_13 : decode cX11_number 13 = .ok (.iadd, 1) := by decide +kernel
theorem dX11_number_14 : decode cX11_number 14 = .ok (.invokevirtual 310, 3) := by decide +kernel
theorem dX11_number_17 : decode cX11_number 17 = .ok (.aload_n 0, 1) := by decide +kernel
theorem dX11_number_18 : decode cX11_number 18 = .ok (.bipush 48, 2) := by decide +kernel
theorem dX11_number_20 : decode cX11_number 20 = .ok (.iload_n 1, 1) := by decide +kernel
theorem dX11_number_21 : decode cX11_number 21 = .ok (.bipush 10, 2) := by decide +kernel
theorem dX11_number_23 : decode cX11_number 23 = .ok (.irem, 1) := by decide +kernel
theorem dX11_number_24 : decode cX11_number 24 = .ok (.iadd, 1) := by decide +kernel
theorem dX11_number_25 : decode cX11_number 25 = .ok (.invokevirtual 310, 3) := by decide +kernel
theorem dX11_number_28 : decode cX11_number 28 = .ok (.return_, 1) := by decide +kernel
theorem dX11_word_0 : decode cX11_word 0 = .ok (.aload_n 0, 1) := by decide +kernel
theorem dX11_word_1 : decode cX11_word 1 = .ok (.bipush 32, 2) := by decide +kernel
theorem dX11_word_3 : decode cX11_word 3 = .ok (.invokevirtual 310, 3) := by decide +kernel
theorem dX11_word_6 : decode cX11_word 6 = .ok (.iconst 0, 1) := by decide +kernel
theorem dX11_word_7 : decode cX11_word 7 = .ok (.istore 5, 2) := by decide +kernel
theorem dX11_word_9 : decode cX11_word 9 = .ok (.iload 5, 2) := by decide +kernel
theorem dX11_word_11 : decode cX11_word 11 = .ok (.bipush 16, 2) := by decide +kernel
theorem dX11_word_13 : decode cX11_word 13 = .ok (.if_icmp .ge 51, 3) := by decide +kernel
theorem dX11_word_16 : decode cX11_word 16 = .ok (.iload 5, 2) := by decide +kernel
theorem dX11_word_18 : decode cX11_word 18 = .ok (.bipush 8, 2) := by decide +kernel
theorem dX11_word_20 : decode cX11_word 20 = .ok (.if_icmp .ge 7, 3) := by decide +kernel
theorem dX11_word_23 : decode cX11_word 23 = .ok (.lload_n 1, 1) := by decide +kernel
theorem dX11_word_24 : decode cX11_word 24 = .ok (.goto 4, 3) := by decide +kernel
theorem dX11_word_27 : decode cX11_word 27 = .ok (.lload_n 3, 1) := by decide +kernel
theorem dX11_word_28 : decode cX11_word 28 = .ok (.bipush 56, 2) := by decide +kernel
theorem dX11_word_30 : decode cX11_word 30 = .ok (.bipush 8, 2) := by decide +kernel
theorem dX11_word_32 : decode cX11_word 32 = .ok (.iload 5, 2) := by decide +kernel
theorem dX11_word_34 : decode cX11_word 34 = .ok (.bipush 8, 2) := by decide +kernel
theorem dX11_word_36 : decode cX11_word 36 = .ok (.irem, 1) := by decide +kernel
theorem dX11_word_37 : decode cX11_word 37 = .ok (.imul, 1) := by decide +kernel
theorem dX11_word_38 : decode cX11_word 38 = .ok (.isub, 1) := by decide +kernel
theorem dX11_word_39 : decode cX11_word 39 = .ok (.lshr, 1) := by decide +kernel
theorem dX11_word_40 : decode cX11_word 40 = .ok (.l2i, 1) := by decide +kernel
theorem dX11_word_41 : decode cX11_word 41 = .ok (.sipush 255, 3) := by decide +kernel
theorem dX11_word_44 : decode cX11_word 44 = .ok (.iand, 1) := by decide +kernel
theorem dX11_word_45 : decode cX11_word 45 = .ok (.istore 6, 2) := by decide +kernel
theorem dX11_word_47 : decode cX11_word 47 = .ok (.iload 6, 2) := by decide +kernel
theorem dX11_word_49 : decode cX11_word 49 = .ok (.ifCond .eq 9, 3) := by decide +kernel
theorem dX11_word_52 : decode cX11_word 52 = .ok (.aload_n 0, 1) := by decide +kernel
theorem dX11_word_53 : decode cX11_word 53 = .ok (.iload 6, 2) := by decide +kernel
theorem dX11_word_55 : decode cX11_word 55 = .ok (.invokevirtual 310, 3) := by decide +kernel
theorem dX11_word_58 : decode cX11_word 58 = .ok (.iinc 5 1, 3) := by decide +kernel
theorem dX11_word_61 : decode cX11_word 61 = .ok (.goto (-52), 3) := by decide +kernel
theorem dX11_word_64 : decode cX11_word 64 = .ok (.return_, 1) := by decide +kernel
theorem dX11_printsPlace_0 : decode cX11_printsPlace 0 = .ok (.aload_n 0, 1) := by decide +kernel
theorem dX11_printsPlace_1 : decode cX11_printsPlace 1 = .ok (.ldc2_w 313, 3) := by decide +kernel
theorem dX11_printsPlace_4 : decode cX11_printsPlace 4 = .ok (.lconst 0, 1) := by decide +kernel
theorem dX11_printsPlace_5 : decode cX11_printsPlace 5 = .ok (.invokevirtual 315, 3) := by decide +kernel
theorem dX11_printsPlace_8 : decode cX11_printsPlace 8 = .ok (.aload_n 0, 1) := by decide +kernel
theorem dX11_printsPlace_9 : decode cX11_printsPlace 9 = .ok (.aload_n 0, 1) := by decide +kernel
theorem dX11_printsPlace_10 : decode cX11_printsPlace 10 = .ok (.getfield 7, 3) := by decide +kernel
theorem dX11_printsPlace_13 : decode cX11_printsPlace 13 = .ok (.iload_n 2, 1) := by decide +kernel
theorem dX11_printsPlace_14 : decode cX11_printsPlace 14 = .ok (.iconst 3, 1) := by decide +kernel
theorem dX11_printsPlace_15 : decode cX11_printsPlace 15 = .ok (.invokestatic 94, 3) := by decide +kernel
theorem dX11_printsPlace_18 : decode cX11_printsPlace 18 = .ok (.iaload, 1) := by decide +kernel
theorem dX11_printsPlace_19 : decode cX11_printsPlace 19 = .ok (.invokevirtual 319, 3) := by decide +kernel
theorem dX11_printsPlace_22 : decode cX11_printsPlace 22 = .ok (.aload_n 0, 1) := by decide +kernel
theorem dX11_printsPlace_23 : decode cX11_printsPlace 23 = .ok (.ldc2_w 322, 3) := by decide +kernel
theorem dX11_printsPlace_26 : decode cX11_printsPlace 26 = .ok (.lconst 0, 1) := by decide +kernel
theorem dX11_printsPlace_27 : decode cX11_printsPlace 27 = .ok (.invokevirtual 315, 3) := by decide +kernel
theorem dX11_printsPlace_30 : decode cX11_printsPlace 30 = .ok (.aload_n 0, 1) := by decide +kernel
theorem dX11_printsPlace_31 : decode cX11_printsPlace 31 = .ok (.aload_n 0, 1) := by decide +kernel
theorem dX11_printsPlace_32 : decode cX11_printsPlace 32 = .ok (.iload_n 2, 1) := by decide +kernel
theorem dX11_printsPlace_33 : decode cX11_printsPlace 33 = .ok (.invokevirtual 273, 3) := by decide +kernel
theorem dX11_printsPlace_36 : decode cX11_printsPlace 36 = .ok (.invokevirtual 319, 3) := by decide +kernel
theorem dX11_printsPlace_39 : decode cX11_printsPlace 39 = .ok (.aload_n 0, 1) := by decide +kernel
theorem dX11_printsPlace_40 : decode cX11_printsPlace 40 = .ok (.bipush 44, 2) := by decide +kernel
theorem dX11_printsPlace_42 : decode cX11_printsPlace 42 = .ok (.invokevirtual 310, 3) := by decide +kernel
theorem dX11_printsPlace_45 : decode cX11_printsPlace 45 = .ok (.aload_n 0, 1) := by decide +kernel
theorem dX11_printsPlace_46 : decode cX11_printsPlace 46 = .ok (.aload_n 0, 1) := by decide +kernel
theorem dX11_printsPlace_47 : decode cX11_printsPlace 47 = .ok (.iload_n 2, 1) := by decide +kernel
theorem dX11_printsPlace_48 : decode cX11_printsPlace 48 = .ok (.invokevirtual 276, 3) := by decide +kernel
theorem dX11_printsPlace_51 : decode cX11_printsPlace 51 = .ok (.invokevirtual 319, 3) := by decide +kernel
theorem dX11_printsPlace_54 : decode cX11_printsPlace 54 = .ok (.aload_n 0, 1) := by decide +kernel
theorem dX11_printsPlace_55 : decode cX11_printsPlace 55 = .ok (.ldc2_w 324, 3) := by decide +kernel
theorem dX11_printsPlace_58 : decode cX11_printsPlace 58 = .ok (.lconst 0, 1) := by decide +kernel
theorem dX11_printsPlace_59 : decode cX11_printsPlace 59 = .ok (.invokevirtual 315, 3) := by decide +kernel
theorem dX11_printsPlace_62 : decode cX11_printsPlace 62 = .ok (.aload_n 0, 1) := by decide +kernel
theorem dX11_printsPlace_63 : decode cX11_printsPlace 63 = .ok (.aload_n 0, 1) := by decide +kernel
theorem dX11_printsPlace_64 : decode cX11_printsPlace 64 = .ok (.getfield 38, 3) := by decide +kernel
theorem dX11_printsPlace_67 : decode cX11_printsPlace 67 = .ok (.iload_n 1, 1) := by decide +kernel
theorem dX11_printsPlace_68 : decode cX11_printsPlace 68 = .ok (.iaload, 1) := by decide +kernel
theorem dX11_printsPlace_69 : decode cX11_printsPlace 69 = .ok (.invokevirtual 319, 3) := by decide +kernel
theorem dX11_printsPlace_72 : decode cX11_printsPlace 72 = .ok (.aload_n 0, 1) := by decide +kernel
theorem dX11_printsPlace_73 : decode cX11_printsPlace 73 = .ok (.bipush 120, 2) := by decide +kernel
theorem dX11_printsPlace_75 : decode cX11_printsPlace 75 = .ok (.invokevirtual 310, 3) := by decide +kernel
theorem dX11_printsPlace_78 : decode cX11_printsPlace 78 = .ok (.aload_n 0, 1) := by decide +kernel
theorem dX11_printsPlace_79 : decode cX11_printsPlace 79 = .ok (.aload_n 0, 1) := by decide +kernel
theorem dX11_printsPlace_80 : decode cX11_printsPlace 80 = .ok (.getfield 41, 3) := by decide +kernel
theorem dX11_printsPlace_83 : decode cX11_printsPlace 83 = .ok (.iload_n 1, 1) := by decide +kernel
theorem dX11_printsPlace_84 : decode cX11_printsPlace 84 = .ok (.iaload, 1) := by decide +kernel
theorem dX11_printsPlace_85 : decode cX11_printsPlace 85 = .ok (.invokevirtual 319, 3) := by decide +kernel
theorem dX11_printsPlace_88 : decode cX11_printsPlace 88 = .ok (.aload_n 0, 1) := by decide +kernel
theorem dX11_printsPlace_89 : decode cX11_printsPlace 89 = .ok (.ldc2_w 326, 3) := by decide +kernel
theorem dX11_printsPlace_92 : decode cX11_printsPlace 92 = .ok (.lconst 0, 1) := by decide +kernel
theorem dX11_printsPlace_93 : decode cX11_printsPlace 93 = .ok (.invokevirtual 315, 3) := by decide +kernel
theorem dX11_printsPlace_96 : decode cX11_printsPlace 96 = .ok (.aload_n 0, 1) := by decide +kernel
theorem dX11_printsPlace_97 : decode cX11_printsPlace 97 = .ok (.aload_n 0, 1) := by decide +kernel
theorem dX11_printsPlace_98 : decode cX11_printsPlace 98 = .ok (.iload_n 1, 1) := by decide +kernel
theorem dX11_printsPlace_99 : decode cX11_printsPlace 99 = .ok (.iload_n 2, 1) := by decide +kernel
theorem dX11_printsPlace_100 : decode cX11_printsPlace 100 = .ok (.invokevirtual 279, 3) := by decide +kernel
theorem dX11_printsPlace_103 : decode cX11_printsPlace 103 = .ok (.invokevirtual 319, 3) := by decide +kernel
theorem dX11_printsPlace_106 : decode cX11_printsPlace 106 = .ok (.return_, 1) := by decide +kernel
theorem dX11_print_0 : decode cX11_print 0 = .ok (.aload_n 0, 1) := by decide +kernel
theorem dX11_print_1 : decode cX11_print 1 = .ok (.iload_n 1, 1) := by decide +kernel
theorem dX11_print_2 : decode cX11_print 2 = .ok (.invokevirtual 138, 3) := by decide +kernel
theorem dX11_print_5 : decode cX11_print 5 = .ok (.ifCond .ne 5, 3) := by decide +kernel
theorem dX11_print_8 : decode cX11_print 8 = .ok (.iconst (-1), 1) := by decide +kernel
theorem dX11_print_9 : decode cX11_print 9 = .ok (.ireturn, 1) := by decide +kernel
theorem dX11_print_10 : decode cX11_print 10 = .ok (.aload_n 0, 1) := by decide +kernel
theorem dX11_print_11 : decode cX11_print 11 = .ok (.iload_n 1, 1) := by decide +kernel
theorem dX11_print_12 : decode cX11_print 12 = .ok (.invokevirtual 270, 3) := by decide +kernel
theorem dX11_print_15 : decode cX11_print 15 = .ok (.istore_n 2, 1) := by decide +kernel
theorem dX11_print_16 : decode cX11_print 16 = .ok (.aload_n 0, 1) := by decide +kernel
theorem dX11_print_17 : decode cX11_print 17 = .ok (.iconst 0, 1) := by decide +kernel
theorem dX11_print_18 : decode cX11_print 18 = .ok (.putfield 307, 3) := by decide +kernel
theorem dX11_print_21 : decode cX11_print 21 = .ok (.aload_n 0, 1) := by decide +kernel
theorem dX11_print_22 : decode cX11_print 22 = .ok (.iload_n 1, 1) := by decide +kernel
theorem dX11_print_23 : decode cX11_print 23 = .ok (.invokevirtual 319, 3) := by decide +kernel
theorem dX11_print_26 : decode cX11_print 26 = .ok (.aload_n 0, 1) := by decide +kernel
theorem dX11_print_27 : decode cX11_print 27 = .ok (.bipush 58, 2) := by decide +kernel
theorem dX11_print_29 : decode cX11_print 29 = .ok (.invokevirtual 310, 3) := by decide +kernel
theorem dX11_print_32 : decode cX11_print 32 = .ok (.aload_n 0, 1) := by decide +kernel
theorem dX11_print_33 : decode cX11_print 33 = .ok (.getfield 38, 3) := by decide +kernel
theorem dX11_print_36 : decode cX11_print 36 = .ok (.iload_n 1, 1) := by decide +kernel
theorem dX11_print_37 : decode cX11_print 37 = .ok (.iaload, 1) := by decide +kernel
theorem dX11_print_38 : decode cX11_print 38 = .ok (.ifCond .ne 14, 3) := by decide +kernel
theorem dX11_print_41 : decode cX11_print 41 = .ok (.aload_n 0, 1) := by decide +kernel
theorem dX11_print_42 : decode cX11_print 42 = .ok (.ldc2_w 328, 3) := by decide +kernel
theorem dX11_print_45 : decode cX11_print 45 = .ok (.lconst 0, 1) := by decide +kernel
theorem dX11_print_46 : decode cX11_print 46 = .ok (.invokevirtual 315, 3) := by decide +kernel
theorem dX11_print_49 : decode cX11_print 49 = .ok (.goto 24, 3) := by decide +kernel
theorem dX11_print_52 : decode cX11_print 52 = .ok (.iload_n 2, 1) := by decide +kernel
theorem dX11_print_53 : decode cX11_print 53 = .ok (.ifCond .ge 14, 3) := by decide +kernel
theorem dX11_print_56 : decode cX11_print 56 = .ok (.aload_n 0, 1) := by decide +kernel
theorem dX11_print_57 : decode cX11_print 57 = .ok (.ldc2_w 330, 3) := by decide +kernel
theorem dX11_print_60 : decode cX11_print 60 = .ok (.lconst 0, 1) := by decide +kernel
theorem dX11_print_61 : decode cX11_print 61 = .ok (.invokevirtual 315, 3) := by decide +kernel
theorem dX11_print_64 : decode cX11_print 64 = .ok (.goto 9, 3) := by decide +kernel
theorem dX11_print_67 : decode cX11_print 67 = .ok (.aload_n 0, 1) := by decide +kernel
theorem dX11_print_68 : decode cX11_print 68 = .ok (.iload_n 1, 1) := by decide +kernel
theorem dX11_print_69 : decode cX11_print 69 = .ok (.iload_n 2, 1) := by decide +kernel
theorem dX11_print_70 : decode cX11_print 70 = .ok (.invokevirtual 332, 3) := by decide +kernel
theorem dX11_print_73 : decode cX11_print 73 = .ok (.aload_n 0, 1) := by decide +kernel
theorem dX11_print_74 : decode cX11_print 74 = .ok (.getfield 44, 3) := by decide +kernel
theorem dX11_print_77 : decode cX11_print 77 = .ok (.iload_n 1, 1) := by decide +kernel
theorem dX11_print_78 : decode cX11_print 78 = .ok (.iaload, 1) := by decide +kernel
theorem dX11_print_79 : decode cX11_print 79 = .ok (.ifCond .lt 21, 3) := by decide +kernel
theorem dX11_print_82 : decode cX11_print 82 = .ok (.aload_n 0, 1) := by decide +kernel
theorem dX11_print_83 : decode cX11_print 83 = .ok (.ldc2_w 335, 3) := by decide +kernel
theorem dX11_print_86 : decode cX11_print 86 = .ok (.lconst 0, 1) := by decide +kernel
theorem dX11_print_87 : decode cX11_print 87 = .ok (.invokevirtual 315, 3) := by decide +kernel
theorem dX11_print_90 : decode cX11_print 90 = .ok (.aload_n 0, 1) := by decide +kernel
theorem dX11_print_91 : decode cX11_print 91 = .ok (.aload_n 0, 1) := by decide +kernel
theorem dX11_print_92 : decode cX11_print 92 = .ok (.getfield 44, 3) := by decide +kernel
theorem dX11_print_95 : decode cX11_print 95 = .ok (.iload_n 1, 1) := by decide +kernel
theorem dX11_print_96 : decode cX11_print 96 = .ok (.iaload, 1) := by decide +kernel
theorem dX11_print_97 : decode cX11_print 97 = .ok (.invokevirtual 319, 3) := by decide +kernel
theorem dX11_print_100 : decode cX11_print 100 = .ok (.aload_n 0, 1) := by decide +kernel
theorem dX11_print_101 : decode cX11_print 101 = .ok (.getfield 307, 3) := by decide +kernel
theorem dX11_print_104 : decode cX11_print 104 = .ok (.ireturn, 1) := by decide +kernel
theorem dX11_printed_0 : decode cX11_printed 0 = .ok (.iload_n 1, 1) := by decide +kernel
theorem dX11_printed_1 : decode cX11_printed 1 = .ok (.ifCond .ge 7, 3) := by decide +kernel
theorem dX11_printed_4 : decode cX11_printed 4 = .ok (.iconst (-1), 1) := by decide +kernel
theorem dX11_printed_5 : decode cX11_printed 5 = .ok (.goto 22, 3) := by decide +kernel
theorem dX11_printed_8 : decode cX11_printed 8 = .ok (.iload_n 1, 1) := by decide +kernel
theorem dX11_printed_9 : decode cX11_printed 9 = .ok (.aload_n 0, 1) := by decide +kernel
theorem dX11_printed_10 : decode cX11_printed 10 = .ok (.getfield 307, 3) := by decide +kernel
theorem dX11_printed_13 : decode cX11_printed 13 = .ok (.if_icmp .ge 12, 3) := by decide +kernel
theorem dX11_printed_16 : decode cX11_printed 16 = .ok (.aload_n 0, 1) := by decide +kernel
theorem dX11_printed_17 : decode cX11_printed 17 = .ok (.getfield 29, 3) := by decide +kernel
theorem dX11_printed_20 : decode cX11_printed 20 = .ok (.iload_n 1, 1) := by decide +kernel
theorem dX11_printed_21 : decode cX11_printed 21 = .ok (.iaload, 1) := by decide +kernel
theorem dX11_printed_22 : decode cX11_printed 22 = .ok (.goto 5, 3) := by decide +kernel
theorem dX11_printed_25 : decode cX11_printed 25 = .ok (.bipush (-4), 2) := by decide +kernel
theorem dX11_printed_27 : decode cX11_printed 27 = .ok (.ireturn, 1) := by decide +kernel
theorem dX11_keep_0 : decode cX11_keep 0 = .ok (.iload_n 1, 1) := by decide +kernel
theorem dX11_keep_1 : decode cX11_keep 1 = .ok (.iconst 0, 1) := by decide +kernel
theorem dX11_keep_2 : decode cX11_keep 2 = .ok (.iconst 1, 1) := by decide +kernel
theorem dX11_keep_3 : decode cX11_keep 3 = .ok (.invokestatic 86, 3) := by decide +kernel
theorem dX11_keep_6 : decode cX11_keep 6 = .ok (.ifCond .ne 5, 3) := by decide +kernel
theorem dX11_keep_9 : decode cX11_keep 9 = .ok (.iconst (-1), 1) := by decide +kernel
theorem dX11_keep_10 : decode cX11_keep 10 = .ok (.ireturn, 1) := by decide +kernel
theorem dX11_keep_11 : decode cX11_keep 11 = .ok (.iconst 0, 1) := by decide +kernel
theorem dX11_keep_12 : decode cX11_keep 12 = .ok (.istore_n 2, 1) := by decide +kernel
theorem dX11_keep_13 : decode cX11_keep 13 = .ok (.iload_n 2, 1) := by decide +kernel
theorem dX11_keep_14 : decode cX11_keep 14 = .ok (.sipush 1748, 3) := by decide +kernel
theorem dX11_keep_17 : decode cX11_keep 17 = .ok (.if_icmp .ge 27, 3) := by decide +kernel
theorem dX11_keep_20 : decode cX11_keep 20 = .ok (.aload_n 0, 1) := by decide +kernel
theorem dX11_keep_21 : decode cX11_keep 21 = .ok (.getfield 19, 3) := by decide +kernel
theorem dX11_keep_24 : decode cX11_keep 24 = .ok (.sipush 1748, 3) := by decide +kernel
theorem dX11_keep_27 : decode cX11_keep 27 = .ok (.iload_n 1, 1) := by decide +kernel
theorem dX11_keep_28 : decode cX11_keep 28 = .ok (.imul, 1) := by decide +kernel
theorem dX11_keep_29 : decode cX11_keep 29 = .ok (.iload_n 2, 1) := by decide +kernel
theorem dX11_keep_30 : decode cX11_keep 30 = .ok (.iadd, 1) := by decide +kernel
theorem dX11_keep_31 : decode cX11_keep 31 = .ok (.aload_n 0, 1) := by decide +kernel
theorem dX11_keep_32 : decode cX11_keep 32 = .ok (.getfield 7, 3) := by decide +kernel
theorem dX11_keep_35 : decode cX11_keep 35 = .ok (.iload_n 2, 1) := by decide +kernel
theorem dX11_keep_36 : decode cX11_keep 36 = .ok (.iaload, 1) := by decide +kernel
theorem dX11_keep_37 : decode cX11_keep 37 = .ok (.iastore, 1) := by decide +kernel
theorem dX11_keep_38 : decode cX11_keep 38 = .ok (.iinc 2 1, 3) := by decide +kernel
theorem dX11_keep_41 : decode cX11_keep 41 = .ok (.goto (-28), 3) := by decide +kernel
theorem dX11_keep_44 : decode cX11_keep 44 = .ok (.aload_n 0, 1) := by decide +kernel
theorem dX11_keep_45 : decode cX11_keep 45 = .ok (.getfield 22, 3) := by decide +kernel
theorem dX11_keep_48 : decode cX11_keep 48 = .ok (.iload_n 1, 1) := by decide +kernel
theorem dX11_keep_49 : decode cX11_keep 49 = .ok (.iconst 1, 1) := by decide +kernel
theorem dX11_keep_50 : decode cX11_keep 50 = .ok (.bastore, 1) := by decide +kernel
theorem dX11_keep_51 : decode cX11_keep 51 = .ok (.aload_n 0, 1) := by decide +kernel
theorem dX11_keep_52 : decode cX11_keep 52 = .ok (.getfield 7, 3) := by decide +kernel
theorem dX11_keep_55 : decode cX11_keep 55 = .ok (.iconst 0, 1) := by decide +kernel
theorem dX11_keep_56 : decode cX11_keep 56 = .ok (.iaload, 1) := by decide +kernel
theorem dX11_keep_57 : decode cX11_keep 57 = .ok (.ireturn, 1) := by decide +kernel
theorem dX11_restore_0 : decode cX11_restore 0 = .ok (.iload_n 1, 1) := by decide +kernel
theorem dX11_restore_1 : decode cX11_restore 1 = .ok (.iconst 0, 1) := by decide +kernel
theorem dX11_restore_2 : decode cX11_restore 2 = .ok (.iconst 1, 1) := by decide +kernel
theorem dX11_restore_3 : decode cX11_restore 3 = .ok (.invokestatic 86, 3) := by decide +kernel
theorem dX11_restore_6 : decode cX11_restore 6 = .ok (.ifCond .ne 5, 3) := by decide +kernel
theorem dX11_restore_9 : decode cX11_restore 9 = .ok (.iconst (-1), 1) := by decide +kernel
theorem dX11_restore_10 : decode cX11_restore 10 = .ok (.ireturn, 1) := by decide +kernel
theorem dX11_restore_11 : decode cX11_restore 11 = .ok (.aload_n 0, 1) := by decide +kernel
theorem dX11_restore_12 : decode cX11_restore 12 = .ok (.getfield 22, 3) := by decide +kernel
theorem dX11_restore_15 : decode cX11_restore 15 = .ok (.iload_n 1, 1) := by decide +kernel
theorem dX11_restore_16 : decode cX11_restore 16 = .ok (.baload, 1) := by decide +kernel
theorem dX11_restore_17 : decode cX11_restore 17 = .ok (.ifCond .ne 6, 3) := by decide +kernel
theorem dX11_restore_20 : decode cX11_restore 20 = .ok (.bipush (-3), 2) := by decide +kernel
theorem dX11_restore_22 : decode cX11_restore 22 = .ok (.ireturn, 1) := by decide +kernel
theorem dX11_restore_23 : decode cX11_restore 23 = .ok (.iconst 0, 1) := by decide +kernel
theorem dX11_restore_24 : decode cX11_restore 24 = .ok (.istore_n 2, 1) := by decide +kernel
theorem dX11_restore_25 : decode cX11_restore 25 = .ok (.iload_n 2, 1) := by decide +kernel
theorem dX11_restore_26 : decode cX11_restore 26 = .ok (.sipush 1748, 3) := by decide +kernel
theorem dX11_restore_29 : decode cX11_restore 29 = .ok (.if_icmp .ge 27, 3) := by decide +kernel
theorem dX11_restore_32 : decode cX11_restore 32 = .ok (.aload_n 0, 1) := by decide +kernel
theorem dX11_restore_33 : decode cX11_restore 33 = .ok (.getfield 7, 3) := by decide +kernel
theorem dX11_restore_36 : decode cX11_restore 36 = .ok (.iload_n 2, 1) := by decide +kernel
theorem dX11_restore_37 : decode cX11_restore 37 = .ok (.aload_n 0, 1) := by decide +kernel
theorem dX11_restore_38 : decode cX11_restore 38 = .ok (.getfield 19, 3) := by decide +kernel
theorem dX11_restore_41 : decode cX11_restore 41 = .ok (.sipush 1748, 3) := by decide +kernel
theorem dX11_restore_44 : decode cX11_restore 44 = .ok (.iload_n 1, 1) := by decide +kernel
theorem dX11_restore_45 : decode cX11_restore 45 = .ok (.imul, 1) := by decide +kernel
theorem dX11_restore_46 : decode cX11_restore 46 = .ok (.iload_n 2, 1) := by decide +kernel
theorem dX11_restore_47 : decode cX11_restore 47 = .ok (.iadd, 1) := by decide +kernel
theorem dX11_restore_48 : decode cX11_restore 48 = .ok (.iaload, 1) := by decide +kernel
theorem dX11_restore_49 : decode cX11_restore 49 = .ok (.iastore, 1) := by decide +kernel
theorem dX11_restore_50 : decode cX11_restore 50 = .ok (.iinc 2 1, 3) := by decide +kernel
theorem dX11_restore_53 : decode cX11_restore 53 = .ok (.goto (-28), 3) := by decide +kernel
theorem dX11_restore_56 : decode cX11_restore 56 = .ok (.aload_n 0, 1) := by decide +kernel
theorem dX11_restore_57 : decode cX11_restore 57 = .ok (.iconst 0, 1) := by decide +kernel
theorem dX11_restore_58 : decode cX11_restore 58 = .ok (.putfield 90, 3) := by decide +kernel
theorem dX11_restore_61 : decode cX11_restore 61 = .ok (.aload_n 0, 1) := by decide +kernel
theorem dX11_restore_62 : decode cX11_restore 62 = .ok (.getfield 7, 3) := by decide +kernel
theorem dX11_restore_65 : decode cX11_restore 65 = .ok (.iconst 0, 1) := by decide +kernel
theorem dX11_restore_66 : decode cX11_restore 66 = .ok (.iaload, 1) := by decide +kernel
theorem dX11_restore_67 : decode cX11_restore 67 = .ok (.ireturn, 1) := by decide +kernel
theorem dX11_more_0 : decode cX11_more 0 = .ok (.ldc2_w 337, 3) := by decide +kernel
theorem dX11_more_3 : decode cX11_more 3 = .ok (.lload_n 0, 1) := by decide +kernel
theorem dX11_more_4 : decode cX11_more 4 = .ok (.lmul, 1) := by decide +kernel
theorem dX11_more_5 : decode cX11_more 5 = .ok (.iload_n 2, 1) := by decide +kernel
theorem dX11_more_6 : decode cX11_more 6 = .ok (.i2l, 1) := by decide +kernel
theorem dX11_more_7 : decode cX11_more 7 = .ok (.ladd, 1) := by decide +kernel
theorem dX11_more_8 : decode cX11_more 8 = .ok (.lreturn, 1) := by decide +kernel
theorem dX11_orNone_0 : decode cX11_orNone 0 = .ok (.iload_n 0, 1) := by decide +kernel
theorem dX11_orNone_1 : decode cX11_orNone 1 = .ok (.ifCond .eq 7, 3) := by decide +kernel
theorem dX11_orNone_4 : decode cX11_orNone 4 = .ok (.iload_n 1, 1) := by decide +kernel
theorem dX11_orNone_5 : decode cX11_orNone 5 = .ok (.goto 5, 3) := by decide +kernel
theorem dX11_orNone_8 : decode cX11_orNone 8 = .ok (.bipush (-4), 2) := by decide +kernel
theorem dX11_orNone_10 : decode cX11_orNone 10 = .ok (.ireturn, 1) := by decide +kernel
theorem dX11_moreOf_0 : decode cX11_moreOf 0 = .ok (.aload_n 0, 1) := by decide +kernel
theorem dX11_moreOf_1 : decode cX11_moreOf 1 = .ok (.getfield 7, 3) := by decide +kernel
theorem dX11_moreOf_4 : decode cX11_moreOf 4 = .ok (.iload_n 3, 1) := by decide +kernel
theorem dX11_moreOf_5 : decode cX11_moreOf 5 = .ok (.iconst 0, 1) := by decide +kernel
theorem dX11_moreOf_6 : decode cX11_moreOf 6 = .ok (.invokestatic 94, 3) := by decide +kernel
theorem dX11_moreOf_9 : decode cX11_moreOf 9 = .ok (.iaload, 1) := by decide +kernel
theorem dX11_moreOf_10 : decode cX11_moreOf 10 = .ok (.istore 4, 2) := by decide +kernel
theorem dX11_moreOf_12 : decode cX11_moreOf 12 = .ok (.aload_n 0, 1) := by decide +kernel
theorem dX11_moreOf_13 : decode cX11_moreOf 13 = .ok (.getfield 7, 3) := by decide +kernel
theorem dX11_moreOf_16 : decode cX11_moreOf 16 = .ok (.iload_n 3, 1) := by decide +kernel
theorem dX11_moreOf_17 : decode cX11_moreOf 17 = .ok (.iconst 1, 1) := by decide +kernel
theorem dX11_moreOf_18 : decode cX11_moreOf 18 = .ok (.invokestatic 94, 3) := by decide +kernel
theorem dX11_moreOf_21 : decode cX11_moreOf 21 = .ok (.iaload, 1) := by decide +kernel
theorem dX11_moreOf_22 : decode cX11_moreOf 22 = .ok (.istore 5, 2) := by decide +kernel
theorem dX11_moreOf_24 : decode cX11_moreOf 24 = .ok (.lload_n 1, 1) := by decide +kernel
theorem dX11_moreOf_25 : decode cX11_moreOf 25 = .ok (.iload 4, 2) := by decide +kernel
theorem dX11_moreOf_27 : decode cX11_moreOf 27 = .ok (.invokestatic 339, 3) := by decide +kernel
theorem dX11_moreOf_30 : decode cX11_moreOf 30 = .ok (.iload 5, 2) := by decide +kernel
theorem dX11_moreOf_32 : decode cX11_moreOf 32 = .ok (.invokestatic 339, 3) := by decide +kernel
theorem dX11_moreOf_35 : decode cX11_moreOf 35 = .ok (.lstore 6, 2) := by decide +kernel
theorem dX11_moreOf_37 : decode cX11_moreOf 37 = .ok (.iconst 0, 1) := by decide +kernel
theorem dX11_moreOf_38 : decode cX11_moreOf 38 = .ok (.istore 8, 2) := by decide +kernel
theorem dX11_moreOf_40 : decode cX11_moreOf 40 = .ok (.iload 8, 2) := by decide +kernel
theorem dX11_moreOf_42 : decode cX11_moreOf 42 = .ok (.iload 4, 2) := by decide +kernel
theorem dX11_moreOf_44 : decode cX11_moreOf 44 = .ok (.iload 5, 2) := by decide +kernel
theorem dX11_moreOf_46 : decode cX11_moreOf 46 = .ok (.imul, 1) := by decide +kernel
theorem dX11_moreOf_47 : decode cX11_moreOf 47 = .ok (.if_icmp .ge 35, 3) := by decide +kernel
theorem dX11_moreOf_50 : decode cX11_moreOf 50 = .ok (.lload 6, 2) := by decide +kernel
theorem dX11_moreOf_52 : decode cX11_moreOf 52 = .ok (.aload_n 0, 1) := by decide +kernel
theorem dX11_moreOf_53 : decode cX11_moreOf 53 = .ok (.getfield 7, 3) := by decide +kernel
theorem dX11_moreOf_56 : decode cX11_moreOf 56 = .ok (.iload_n 3, 1) := by decide +kernel
theorem dX11_moreOf_57 : decode cX11_moreOf 57 = .ok (.iload 8, 2) := by decide +kernel
theorem dX11_moreOf_59 : decode cX11_moreOf 59 = .ok (.iload 4, 2) := by decide +kernel
theorem dX11_moreOf_61 : decode cX11_moreOf 61 = .ok (.irem, 1) := by decide +kernel
theorem dX11_moreOf_62 : decode cX11_moreOf 62 = .ok (.iload 8, 2) := by decide +kernel
theorem dX11_moreOf_64 : decode cX11_moreOf 64 = .ok (.iload 4, 2) := by decide +kernel
theorem dX11_moreOf_66 : decode cX11_moreOf 66 = .ok (.idiv, 1) := by decide +kernel
theorem dX11_moreOf_67 : decode cX11_moreOf 67 = .ok (.invokestatic 118, 3) := by decide +kernel
theorem dX11_moreOf_70 : decode cX11_moreOf 70 = .ok (.iaload, 1) := by decide +kernel
theorem dX11_moreOf_71 : decode cX11_moreOf 71 = .ok (.invokestatic 339, 3) := by decide +kernel
theorem dX11_moreOf_74 : decode cX11_moreOf 74 = .ok (.lstore 6, 2) := by decide +kernel
theorem dX11_moreOf_76 : decode cX11_moreOf 76 = .ok (.iinc 8 1, 3) := by decide +kernel
theorem dX11_moreOf_79 : decode cX11_moreOf 79 = .ok (.goto (-39), 3) := by decide +kernel
theorem dX11_moreOf_82 : decode cX11_moreOf 82 = .ok (.lload 6, 2) := by decide +kernel
theorem dX11_moreOf_84 : decode cX11_moreOf 84 = .ok (.aload_n 0, 1) := by decide +kernel
theorem dX11_moreOf_85 : decode cX11_moreOf 85 = .ok (.getfield 7, 3) := by decide +kernel
theorem dX11_moreOf_88 : decode cX11_moreOf 88 = .ok (.iload_n 3, 1) := by decide +kernel
theorem dX11_moreOf_89 : decode cX11_moreOf 89 = .ok (.iconst 2, 1) := by decide +kernel
theorem dX11_moreOf_90 : decode cX11_moreOf 90 = .ok (.invokestatic 94, 3) := by decide +kernel
theorem dX11_moreOf_93 : decode cX11_moreOf 93 = .ok (.iaload, 1) := by decide +kernel
theorem dX11_moreOf_94 : decode cX11_moreOf 94 = .ok (.invokestatic 339, 3) := by decide +kernel
theorem dX11_moreOf_97 : decode cX11_moreOf 97 = .ok (.lstore 6, 2) := by decide +kernel
theorem dX11_moreOf_99 : decode cX11_moreOf 99 = .ok (.aload_n 0, 1) := by decide +kernel
theorem dX11_moreOf_100 : decode cX11_moreOf 100 = .ok (.getfield 38, 3) := by decide +kernel
theorem dX11_moreOf_103 : decode cX11_moreOf 103 = .ok (.iload_n 3, 1) := by decide +kernel
theorem dX11_moreOf_104 : decode cX11_moreOf 104 = .ok (.iaload, 1) := by decide +kernel
theorem dX11_moreOf_105 : decode cX11_moreOf 105 = .ok (.ifCond .le 7, 3) := by decide +kernel
theorem dX11_moreOf_108 : decode cX11_moreOf 108 = .ok (.iconst 1, 1) := by decide +kernel
theorem dX11_moreOf_109 : decode cX11_moreOf 109 = .ok (.goto 4, 3) := by decide +kernel
theorem dX11_moreOf_112 : decode cX11_moreOf 112 = .ok (.iconst 0, 1) := by decide +kernel
theorem dX11_moreOf_113 : decode cX11_moreOf 113 = .ok (.istore 8, 2) := by decide +kernel
theorem dX11_moreOf_115 : decode cX11_moreOf 115 = .ok (.lload 6, 2) := by decide +kernel
theorem dX11_moreOf_117 : decode cX11_moreOf 117 = .ok (.iload 8, 2) := by decide +kernel
theorem dX11_moreOf_119 : decode cX11_moreOf 119 = .ok (.aload_n 0, 1) := by decide +kernel
theorem dX11_moreOf_120 : decode cX11_moreOf 120 = .ok (.getfield 32, 3) := by decide +kernel
theorem dX11_moreOf_123 : decode cX11_moreOf 123 = .ok (.iload_n 3, 1) := by decide +kernel
theorem dX11_moreOf_124 : decode cX11_moreOf 124 = .ok (.iaload, 1) := by decide +kernel
theorem dX11_moreOf_125 : decode cX11_moreOf 125 = .ok (.invokestatic 343, 3) := by decide +kernel
theorem dX11_moreOf_128 : decode cX11_moreOf 128 = .ok (.invokestatic 339, 3) := by decide +kernel
theorem dX11_moreOf_131 : decode cX11_moreOf 131 = .ok (.iload 8, 2) := by decide +kernel
theorem dX11_moreOf_133 : decode cX11_moreOf 133 = .ok (.aload_n 0, 1) := by decide +kernel
theorem dX11_moreOf_134 : decode cX11_moreOf 134 = .ok (.getfield 35, 3) := by decide +kernel
theorem dX11_moreOf_137 : decode cX11_moreOf 137 = .ok (.iload_n 3, 1) := by decide +kernel
theorem dX11_moreOf_138 : decode cX11_moreOf 138 = .ok (.iaload, 1) := by decide +kernel
theorem dX11_moreOf_139 : decode cX11_moreOf 139 = .ok (.invokestatic 343, 3) := by decide +kernel
theorem dX11_moreOf_142 : decode cX11_moreOf 142 = .ok (.invokestatic 339, 3) := by decide +kernel
theorem dX11_moreOf_145 : decode cX11_moreOf 145 = .ok (.lstore 6, 2) := by decide +kernel
theorem dX11_moreOf_147 : decode cX11_moreOf 147 = .ok (.lload 6, 2) := by decide +kernel
theorem dX11_moreOf_149 : decode cX11_moreOf 149 = .ok (.aload_n 0, 1) := by decide +kernel
theorem dX11_moreOf_150 : decode cX11_moreOf 150 = .ok (.getfield 38, 3) := by decide +kernel
theorem dX11_moreOf_153 : decode cX11_moreOf 153 = .ok (.iload_n 3, 1) := by decide +kernel
theorem dX11_moreOf_154 : decode cX11_moreOf 154 = .ok (.iaload, 1) := by decide +kernel
theorem dX11_moreOf_155 : decode cX11_moreOf 155 = .ok (.invokestatic 339, 3) := by decide +kernel
theorem dX11_moreOf_158 : decode cX11_moreOf 158 = .ok (.aload_n 0, 1) := by decide +kernel
theorem dX11_moreOf_159 : decode cX11_moreOf 159 = .ok (.getfield 41, 3) := by decide +kernel
theorem dX11_moreOf_162 : decode cX11_moreOf 162 = .ok (.iload_n 3, 1) := by decide +kernel
theorem dX11_moreOf_163 : decode cX11_moreOf 163 = .ok (.iaload, 1) := by decide +kernel
theorem dX11_moreOf_164 : decode cX11_moreOf 164 = .ok (.invokestatic 339, 3) := by decide +kernel
theorem dX11_moreOf_167 : decode cX11_moreOf 167 = .ok (.lstore 6, 2) := by decide +kernel
theorem dX11_moreOf_169 : decode cX11_moreOf 169 = .ok (.aload_n 0, 1) := by decide +kernel
theorem dX11_moreOf_170 : decode cX11_moreOf 170 = .ok (.getfield 44, 3) := by decide +kernel
theorem dX11_moreOf_173 : decode cX11_moreOf 173 = .ok (.iload_n 3, 1) := by decide +kernel
theorem dX11_moreOf_174 : decode cX11_moreOf 174 = .ok (.iaload, 1) := by decide +kernel
theorem dX11_moreOf_175 : decode cX11_moreOf 175 = .ok (.ifCond .lt 7, 3) := by decide +kernel
theorem dX11_moreOf_178 : decode cX11_moreOf 178 = .ok (.iconst 1, 1) := by decide +kernel
theorem dX11_moreOf_179 : decode cX11_moreOf 179 = .ok (.goto 4, 3) := by decide +kernel
theorem dX11_moreOf_182 : decode cX11_moreOf 182 = .ok (.iconst 0, 1) := by decide +kernel
theorem dX11_moreOf_183 : decode cX11_moreOf 183 = .ok (.istore 9, 2) := by decide +kernel
theorem dX11_moreOf_185 : decode cX11_moreOf 185 = .ok (.lload 6, 2) := by decide +kernel
theorem dX11_moreOf_187 : decode cX11_moreOf 187 = .ok (.iload 9, 2) := by decide +kernel
theorem dX11_moreOf_189 : decode cX11_moreOf 189 = .ok (.aload_n 0, 1) := by decide +kernel
theorem dX11_moreOf_190 : decode cX11_moreOf 190 = .ok (.getfield 44, 3) := by decide +kernel
theorem dX11_moreOf_193 : decode cX11_moreOf 193 = .ok (.iload_n 3, 1) := by decide +kernel
theorem dX11_moreOf_194 : decode cX11_moreOf 194 = .ok (.iaload, 1) := by decide +kernel
theorem dX11_moreOf_195 : decode cX11_moreOf 195 = .ok (.invokestatic 343, 3) := by decide +kernel
theorem dX11_moreOf_198 : decode cX11_moreOf 198 = .ok (.invokestatic 339, 3) := by decide +kernel
theorem dX11_moreOf_201 : decode cX11_moreOf 201 = .ok (.iload 9, 2) := by decide +kernel
theorem dX11_moreOf_203 : decode cX11_moreOf 203 = .ok (.aload_n 0, 1) := by decide +kernel
theorem dX11_moreOf_204 : decode cX11_moreOf 204 = .ok (.getfield 47, 3) := by decide +kernel
theorem dX11_moreOf_207 : decode cX11_moreOf 207 = .ok (.iload_n 3, 1) := by decide +kernel
theorem dX11_moreOf_208 : decode cX11_moreOf 208 = .ok (.iaload, 1) := by decide +kernel
theorem dX11_moreOf_209 : decode cX11_moreOf 209 = .ok (.invokestatic 343, 3) := by decide +kernel
theorem dX11_moreOf_212 : decode cX11_moreOf 212 = .ok (.invokestatic 339, 3) := by decide +kernel
theorem dX11_moreOf_215 : decode cX11_moreOf 215 = .ok (.lstore 6, 2) := by decide +kernel
theorem dX11_moreOf_217 : decode cX11_moreOf 217 = .ok (.iload 9, 2) := by decide +kernel
theorem dX11_moreOf_219 : decode cX11_moreOf 219 = .ok (.ifCond .eq 12, 3) := by decide +kernel
theorem dX11_moreOf_222 : decode cX11_moreOf 222 = .ok (.aload_n 0, 1) := by decide +kernel
theorem dX11_moreOf_223 : decode cX11_moreOf 223 = .ok (.getfield 44, 3) := by decide +kernel
theorem dX11_moreOf_226 : decode cX11_moreOf 226 = .ok (.iload_n 3, 1) := by decide +kernel
theorem dX11_moreOf_227 : decode cX11_moreOf 227 = .ok (.iaload, 1) := by decide +kernel
theorem dX11_moreOf_228 : decode cX11_moreOf 228 = .ok (.goto 4, 3) := by decide +kernel
theorem dX11_moreOf_231 : decode cX11_moreOf 231 = .ok (.iload_n 3, 1) := by decide +kernel
theorem dX11_moreOf_232 : decode cX11_moreOf 232 = .ok (.istore 10, 2) := by decide +kernel
theorem dX11_moreOf_234 : decode cX11_moreOf 234 = .ok (.iload 8, 2) := by decide +kernel
theorem dX11_moreOf_236 : decode cX11_moreOf 236 = .ok (.ifCond .eq 21, 3) := by decide +kernel
theorem dX11_moreOf_239 : decode cX11_moreOf 239 = .ok (.aload_n 0, 1) := by decide +kernel
theorem dX11_moreOf_240 : decode cX11_moreOf 240 = .ok (.getfield 7, 3) := by decide +kernel
theorem dX11_moreOf_243 : decode cX11_moreOf 243 = .ok (.iload 10, 2) := by decide +kernel
theorem dX11_moreOf_245 : decode cX11_moreOf 245 = .ok (.iconst 3, 1) := by decide +kernel
theorem dX11_moreOf_246 : decode cX11_moreOf 246 = .ok (.invokestatic 94, 3) := by decide +kernel
theorem dX11_moreOf_249 : decode cX11_moreOf 249 = .ok (.iaload, 1) := by decide +kernel
theorem dX11_moreOf_250 : decode cX11_moreOf 250 = .ok (.ifCond .lt 7, 3) := by decide +kernel
theorem dX11_moreOf_253 : decode cX11_moreOf 253 = .ok (.iconst 1, 1) := by decide +kernel
theorem dX11_moreOf_254 : decode cX11_moreOf 254 = .ok (.goto 4, 3) := by decide +kernel
theorem dX11_moreOf_257 : decode cX11_moreOf 257 = .ok (.iconst 0, 1) := by decide +kernel
theorem dX11_moreOf_258 : decode cX11_moreOf 258 = .ok (.istore 11, 2) := by decide +kernel
theorem dX11_moreOf_260 : decode cX11_moreOf 260 = .ok (.lload 6, 2) := by decide +kernel
theorem dX11_moreOf_262 : decode cX11_moreOf 262 = .ok (.iload 11, 2) := by decide +kernel
theorem dX11_moreOf_264 : decode cX11_moreOf 264 = .ok (.aload_n 0, 1) := by decide +kernel
theorem dX11_moreOf_265 : decode cX11_moreOf 265 = .ok (.getfield 7, 3) := by decide +kernel
theorem dX11_moreOf_268 : decode cX11_moreOf 268 = .ok (.iload 10, 2) := by decide +kernel
theorem dX11_moreOf_270 : decode cX11_moreOf 270 = .ok (.iconst 3, 1) := by decide +kernel
theorem dX11_moreOf_271 : decode cX11_moreOf 271 = .ok (.invokestatic 94, 3) := by decide +kernel
theorem dX11_moreOf_274 : decode cX11_moreOf 274 = .ok (.iaload, 1) := by decide +kernel
theorem dX11_moreOf_275 : decode cX11_moreOf 275 = .ok (.invokestatic 343, 3) := by decide +kernel
theorem dX11_moreOf_278 : decode cX11_moreOf 278 = .ok (.invokestatic 339, 3) := by decide +kernel
theorem dX11_moreOf_281 : decode cX11_moreOf 281 = .ok (.iload 11, 2) := by decide +kernel
theorem dX11_moreOf_283 : decode cX11_moreOf 283 = .ok (.aload_n 0, 1) := by decide +kernel
theorem dX11_moreOf_284 : decode cX11_moreOf 284 = .ok (.iload 10, 2) := by decide +kernel
theorem dX11_moreOf_286 : decode cX11_moreOf 286 = .ok (.invokevirtual 273, 3) := by decide +kernel
theorem dX11_moreOf_289 : decode cX11_moreOf 289 = .ok (.invokestatic 343, 3) := by decide +kernel
theorem dX11_moreOf_292 : decode cX11_moreOf 292 = .ok (.invokestatic 339, 3) := by decide +kernel
theorem dX11_moreOf_295 : decode cX11_moreOf 295 = .ok (.lstore 6, 2) := by decide +kernel
theorem dX11_moreOf_297 : decode cX11_moreOf 297 = .ok (.lload 6, 2) := by decide +kernel
theorem dX11_moreOf_299 : decode cX11_moreOf 299 = .ok (.iload 11, 2) := by decide +kernel
theorem dX11_moreOf_301 : decode cX11_moreOf 301 = .ok (.aload_n 0, 1) := by decide +kernel
theorem dX11_moreOf_302 : decode cX11_moreOf 302 = .ok (.iload 10, 2) := by decide +kernel
theorem dX11_moreOf_304 : decode cX11_moreOf 304 = .ok (.invokevirtual 276, 3) := by decide +kernel
theorem dX11_moreOf_307 : decode cX11_moreOf 307 = .ok (.invokestatic 343, 3) := by decide +kernel
theorem dX11_moreOf_310 : decode cX11_moreOf 310 = .ok (.invokestatic 339, 3) := by decide +kernel
theorem dX11_moreOf_313 : decode cX11_moreOf 313 = .ok (.iload 11, 2) := by decide +kernel
theorem dX11_moreOf_315 : decode cX11_moreOf 315 = .ok (.aload_n 0, 1) := by decide +kernel
theorem dX11_moreOf_316 : decode cX11_moreOf 316 = .ok (.getfield 7, 3) := by decide +kernel
theorem dX11_moreOf_319 : decode cX11_moreOf 319 = .ok (.iload 10, 2) := by decide +kernel
theorem dX11_moreOf_321 : decode cX11_moreOf 321 = .ok (.bipush 6, 2) := by decide +kernel
theorem dX11_moreOf_323 : decode cX11_moreOf 323 = .ok (.invokestatic 94, 3) := by decide +kernel
theorem dX11_moreOf_326 : decode cX11_moreOf 326 = .ok (.iaload, 1) := by decide +kernel
theorem dX11_moreOf_327 : decode cX11_moreOf 327 = .ok (.invokestatic 343, 3) := by decide +kernel
theorem dX11_moreOf_330 : decode cX11_moreOf 330 = .ok (.invokestatic 339, 3) := by decide +kernel
theorem dX11_moreOf_333 : decode cX11_moreOf 333 = .ok (.lstore 6, 2) := by decide +kernel
theorem dX11_moreOf_335 : decode cX11_moreOf 335 = .ok (.lload 6, 2) := by decide +kernel
theorem dX11_moreOf_337 : decode cX11_moreOf 337 = .ok (.iload 11, 2) := by decide +kernel
theorem dX11_moreOf_339 : decode cX11_moreOf 339 = .ok (.ifCond .eq 13, 3) := by decide +kernel
theorem dX11_moreOf_342 : decode cX11_moreOf 342 = .ok (.aload_n 0, 1) := by decide +kernel
theorem dX11_moreOf_343 : decode cX11_moreOf 343 = .ok (.iload_n 3, 1) := by decide +kernel
theorem dX11_moreOf_344 : decode cX11_moreOf 344 = .ok (.iload 10, 2) := by decide +kernel
theorem dX11_moreOf_346 : decode cX11_moreOf 346 = .ok (.invokevirtual 279, 3) := by decide +kernel
theorem dX11_moreOf_349 : decode cX11_moreOf 349 = .ok (.goto 5, 3) := by decide +kernel
theorem dX11_moreOf_352 : decode cX11_moreOf 352 = .ok (.bipush (-4), 2) := by decide +kernel
theorem dX11_moreOf_354 : decode cX11_moreOf 354 = .ok (.invokestatic 339, 3) := by decide +kernel
theorem dX11_moreOf_357 : decode cX11_moreOf 357 = .ok (.lreturn, 1) := by decide +kernel
theorem dX11_moreOfPage_0 : decode cX11_moreOfPage 0 = .ok (.aload_n 0, 1) := by decide +kernel
theorem dX11_moreOfPage_1 : decode cX11_moreOfPage 1 = .ok (.iload_n 3, 1) := by decide +kernel
theorem dX11_moreOfPage_2 : decode cX11_moreOfPage 2 = .ok (.invokevirtual 234, 3) := by decide +kernel
theorem dX11_moreOfPage_5 : decode cX11_moreOfPage 5 = .ok (.lload_n 1, 1) := by decide +kernel
theorem dX11_moreOfPage_6 : decode cX11_moreOfPage 6 = .ok (.aload_n 0, 1) := by decide +kernel
theorem dX11_moreOfPage_7 : decode cX11_moreOfPage 7 = .ok (.iload_n 3, 1) := by decide +kernel
theorem dX11_moreOfPage_8 : decode cX11_moreOfPage 8 = .ok (.iconst 1, 1) := by decide +kernel
theorem dX11_moreOfPage_9 : decode cX11_moreOfPage 9 = .ok (.invokevirtual 297, 3) := by decide +kernel
theorem dX11_moreOfPage_12 : decode cX11_moreOfPage 12 = .ok (.invokestatic 339, 3) := by decide +kernel
theorem dX11_moreOfPage_15 : decode cX11_moreOfPage 15 = .ok (.aload_n 0, 1) := by decide +kernel
theorem dX11_moreOfPage_16 : decode cX11_moreOfPage 16 = .ok (.iload_n 3, 1) := by decide +kernel
theorem dX11_moreOfPage_17 : decode cX11_moreOfPage 17 = .ok (.iconst 0, 1) := by decide +kernel
theorem dX11_moreOfPage_18 : decode cX11_moreOfPage 18 = .ok (.invokevirtual 297, 3) := by decide +kernel
theorem dX11_moreOfPage_21 : decode cX11_moreOfPage 21 = .ok (.invokestatic 339, 3) := by decide +kernel
theorem dX11_moreOfPage_24 : decode cX11_moreOfPage 24 = .ok (.lstore 4, 2) := by decide +kernel
theorem dX11_moreOfPage_26 : decode cX11_moreOfPage 26 = .ok (.lload 4, 2) := by decide +kernel
theorem dX11_moreOfPage_28 : decode cX11_moreOfPage 28 = .ok (.aload_n 0, 1) := by decide +kernel
theorem dX11_moreOfPage_29 : decode cX11_moreOfPage 29 = .ok (.getfield 200, 3) := by decide +kernel
theorem dX11_moreOfPage_32 : decode cX11_moreOfPage 32 = .ok (.invokestatic 339, 3) := by decide +kernel
theorem dX11_moreOfPage_35 : decode cX11_moreOfPage 35 = .ok (.lstore 4, 2) := by decide +kernel
theorem dX11_moreOfPage_37 : decode cX11_moreOfPage 37 = .ok (.iconst 0, 1) := by decide +kernel
theorem dX11_moreOfPage_38 : decode cX11_moreOfPage 38 = .ok (.istore 6, 2) := by decide +kernel
theorem dX11_moreOfPage_40 : decode cX11_moreOfPage 40 = .ok (.iload 6, 2) := by decide +kernel
theorem dX11_moreOfPage_42 : decode cX11_moreOfPage 42 = .ok (.aload_n 0, 1) := by decide +kernel
theorem dX11_moreOfPage_43 : decode cX11_moreOfPage 43 = .ok (.getfield 7, 3) := by decide +kernel
theorem dX11_moreOfPage_46 : decode cX11_moreOfPage 46 = .ok (.iconst 2, 1) := by decide +kernel
theorem dX11_moreOfPage_47 : decode cX11_moreOfPage 47 = .ok (.iaload, 1) := by decide +kernel
theorem dX11_moreOfPage_48 : decode cX11_moreOfPage 48 = .ok (.if_icmp .ge 45, 3) := by decide +kernel
theorem dX11_moreOfPage_51 : decode cX11_moreOfPage 51 = .ok (.iconst 0, 1) := by decide +kernel
theorem dX11_moreOfPage_52 : decode cX11_moreOfPage 52 = .ok (.istore 7, 2) := by decide +kernel
theorem dX11_moreOfPage_54 : decode cX11_moreOfPage 54 = .ok (.iload 7, 2) := by decide +kernel
theorem dX11_moreOfPage_56 : decode cX11_moreOfPage 56 = .ok (.aload_n 0, 1) := by decide +kernel
theorem dX11_moreOfPage_57 : decode cX11_moreOfPage 57 = .ok (.getfield 7, 3) := by decide +kernel
theorem dX11_moreOfPage_60 : decode cX11_moreOfPage 60 = .ok (.iconst 1, 1) := by decide +kernel
theorem dX11_moreOfPage_61 : decode cX11_moreOfPage 61 = .ok (.iaload, 1) := by decide +kernel
theorem dX11_moreOfPage_62 : decode cX11_moreOfPage 62 = .ok (.if_icmp .ge 25, 3) := by decide +kernel
theorem dX11_moreOfPage_65 : decode cX11_moreOfPage 65 = .ok (.lload 4, 2) := by decide +kernel
theorem dX11_moreOfPage_67 : decode cX11_moreOfPage 67 = .ok (.aload_n 0, 1) := by decide +kernel
theorem dX11_moreOfPage_68 : decode cX11_moreOfPage 68 = .ok (.iload_n 3, 1) := by decide +kernel
theorem dX11_moreOfPage_69 : decode cX11_moreOfPage 69 = .ok (.iload 7, 2) := by decide +kernel
theorem dX11_moreOfPage_71 : decode cX11_moreOfPage 71 = .ok (.iload 6, 2) := by decide +kernel
theorem dX11_moreOfPage_73 : decode cX11_moreOfPage 73 = .ok (.invokevirtual 294, 3) := by decide +kernel
theorem dX11_moreOfPage_76 : decode cX11_moreOfPage 76 = .ok (.invokestatic 339, 3) := by decide +kernel
theorem dX11_moreOfPage_79 : decode cX11_moreOfPage 79 = .ok (.lstore 4, 2) := by decide +kernel
theorem dX11_moreOfPage_81 : decode cX11_moreOfPage 81 = .ok (.iinc 7 1, 3) := by decide +kernel
theorem dX11_moreOfPage_84 : decode cX11_moreOfPage 84 = .ok (.goto (-30), 3) := by decide +kernel
theorem dX11_moreOfPage_87 : decode cX11_moreOfPage 87 = .ok (.iinc 6 1, 3) := by decide +kernel
theorem dX11_moreOfPage_90 : decode cX11_moreOfPage 90 = .ok (.goto (-50), 3) := by decide +kernel
theorem dX11_moreOfPage_93 : decode cX11_moreOfPage 93 = .ok (.lload 4, 2) := by decide +kernel
theorem dX11_moreOfPage_95 : decode cX11_moreOfPage 95 = .ok (.lreturn, 1) := by decide +kernel
theorem dX11_checksum_0 : decode cX11_checksum 0 = .ok (.aload_n 0, 1) := by decide +kernel
theorem dX11_checksum_1 : decode cX11_checksum 1 = .ok (.invokevirtual 176, 3) := by decide +kernel
theorem dX11_checksum_4 : decode cX11_checksum 4 = .ok (.ldc2_w 347, 3) := by decide +kernel
theorem dX11_checksum_7 : decode cX11_checksum 7 = .ok (.aload_n 0, 1) := by decide +kernel
theorem dX11_checksum_8 : decode cX11_checksum 8 = .ok (.getfield 7, 3) := by decide +kernel
theorem dX11_checksum_11 : decode cX11_checksum 11 = .ok (.iconst 0, 1) := by decide +kernel
theorem dX11_checksum_12 : decode cX11_checksum 12 = .ok (.iaload, 1) := by decide +kernel
theorem dX11_checksum_13 : decode cX11_checksum 13 = .ok (.invokestatic 339, 3) := by decide +kernel
theorem dX11_checksum_16 : decode cX11_checksum 16 = .ok (.lstore_n 1, 1) := by decide +kernel
theorem dX11_checksum_17 : decode cX11_checksum 17 = .ok (.iconst 0, 1) := by decide +kernel
theorem dX11_checksum_18 : decode cX11_checksum 18 = .ok (.istore_n 3, 1) := by decide +kernel
theorem dX11_checksum_19 : decode cX11_checksum 19 = .ok (.iload_n 3, 1) := by decide +kernel
theorem dX11_checksum_20 : decode cX11_checksum 20 = .ok (.aload_n 0, 1) := by decide +kernel
theorem dX11_checksum_21 : decode cX11_checksum 21 = .ok (.getfield 7, 3) := by decide +kernel
theorem dX11_checksum_24 : decode cX11_checksum 24 = .ok (.iconst 0, 1) := by decide +kernel
theorem dX11_checksum_25 : decode cX11_checksum 25 = .ok (.iaload, 1) := by decide +kernel
theorem dX11_checksum_26 : decode cX11_checksum 26 = .ok (.if_icmp .ge 16, 3) := by decide +kernel
theorem dX11_checksum_29 : decode cX11_checksum 29 = .ok (.aload_n 0, 1) := by decide +kernel
theorem dX11_checksum_30 : decode cX11_checksum 30 = .ok (.lload_n 1, 1) := by decide +kernel
theorem dX11_checksum_31 : decode cX11_checksum 31 = .ok (.iload_n 3, 1) := by decide +kernel
theorem dX11_checksum_32 : decode cX11_checksum 32 = .ok (.invokevirtual 349, 3) := by decide +kernel
theorem dX11_checksum_35 : decode cX11_checksum 35 = .ok (.lstore_n 1, 1) := by decide +kernel
theorem dX11_checksum_36 : decode cX11_checksum 36 = .ok (.iinc 3 1, 3) := by decide +kernel
theorem dX11_checksum_39 : decode cX11_checksum 39 = .ok (.goto (-20), 3) := by decide +kernel
theorem dX11_checksum_42 : decode cX11_checksum 42 = .ok (.lload_n 1, 1) := by decide +kernel
theorem dX11_checksum_43 : decode cX11_checksum 43 = .ok (.aload_n 0, 1) := by decide +kernel
theorem dX11_checksum_44 : decode cX11_checksum 44 = .ok (.getfield 7, 3) := by decide +kernel
theorem dX11_checksum_47 : decode cX11_checksum 47 = .ok (.bipush 13, 2) := by decide +kernel
theorem dX11_checksum_49 : decode cX11_checksum 49 = .ok (.iaload, 1) := by decide +kernel
theorem dX11_checksum_50 : decode cX11_checksum 50 = .ok (.invokestatic 339, 3) := by decide +kernel
theorem dX11_checksum_53 : decode cX11_checksum 53 = .ok (.lstore_n 1, 1) := by decide +kernel
theorem dX11_checksum_54 : decode cX11_checksum 54 = .ok (.iconst 0, 1) := by decide +kernel
theorem dX11_checksum_55 : decode cX11_checksum 55 = .ok (.istore_n 3, 1) := by decide +kernel
theorem dX11_checksum_56 : decode cX11_checksum 56 = .ok (.iload_n 3, 1) := by decide +kernel
theorem dX11_checksum_57 : decode cX11_checksum 57 = .ok (.aload_n 0, 1) := by decide +kernel
theorem dX11_checksum_58 : decode cX11_checksum 58 = .ok (.getfield 7, 3) := by decide +kernel
theorem dX11_checksum_61 : decode cX11_checksum 61 = .ok (.bipush 13, 2) := by decide +kernel
theorem dX11_checksum_63 : decode cX11_checksum 63 = .ok (.iaload, 1) := by decide +kernel
theorem dX11_checksum_64 : decode cX11_checksum 64 = .ok (.if_icmp .ge 16, 3) := by decide +kernel
theorem dX11_checksum_67 : decode cX11_checksum 67 = .ok (.aload_n 0, 1) := by decide +kernel
theorem dX11_checksum_68 : decode cX11_checksum 68 = .ok (.lload_n 1, 1) := by decide +kernel
theorem dX11_checksum_69 : decode cX11_checksum 69 = .ok (.iload_n 3, 1) := by decide +kernel
theorem dX11_checksum_70 : decode cX11_checksum 70 = .ok (.invokevirtual 352, 3) := by decide +kernel
theorem dX11_checksum_73 : decode cX11_checksum 73 = .ok (.lstore_n 1, 1) := by decide +kernel
theorem dX11_checksum_74 : decode cX11_checksum 74 = .ok (.iinc 3 1, 3) := by decide +kernel
theorem dX11_checksum_77 : decode cX11_checksum 77 = .ok (.goto (-21), 3) := by decide +kernel
theorem dX11_checksum_80 : decode cX11_checksum 80 = .ok (.lload_n 1, 1) := by decide +kernel
theorem dX11_checksum_81 : decode cX11_checksum 81 = .ok (.lreturn, 1) := by decide +kernel
