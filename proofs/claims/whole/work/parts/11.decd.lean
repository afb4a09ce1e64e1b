theorem dX11_init_0 : decode cX11_init 0 = .ok (.aload_n 0, 1) := by decide +kernel
theorem dX11_init_1 : decode cX11_init 1 = .ok (.invokespecial 3, 3) := by decide +kernel
theorem dX11_init_4 : decode cX11_init 4 = .ok (.aload_n 0, 1) := by decide +kernel
theorem dX11_init_5 : decode cX11_init 5 = .ok (.bipush 60, 2) := by decide +kernel
theorem dX11_init_7 : decode cX11_init 7 = .ok (.newarray .int, 2) := by decide +kernel
theorem dX11_init_9 : decode cX11_init 9 = .ok (.putfield 9, 3) := by decide +kernel
theorem dX11_init_12 : decode cX11_init 12 = .ok (.aload_n 0, 1) := by decide +kernel
theorem dX11_init_13 : decode cX11_init 13 = .ok (.bipush 60, 2) := by decide +kernel
theorem dX11_init_15 : decode cX11_init 15 = .ok (.newarray .int, 2) := by decide +kernel
theorem dX11_init_17 : decode cX11_init 17 = .ok (.putfield 13, 3) := by decide +kernel
theorem dX11_init_20 : decode cX11_init 20 = .ok (.aload_n 0, 1) := by decide +kernel
theorem dX11_init_21 : decode cX11_init 21 = .ok (.bipush 60, 2) := by decide +kernel
theorem dX11_init_23 : decode cX11_init 23 = .ok (.newarray .int, 2) := by decide +kernel
theorem dX11_init_25 : decode cX11_init 25 = .ok (.putfield 16, 3) := by decide +kernel
theorem dX11_init_28 : decode cX11_init 28 = .ok (.aload_n 0, 1) := by decide +kernel
theorem dX11_init_29 : decode cX11_init 29 = .ok (.iconst 5, 1) := by decide +kernel
theorem dX11_init_30 : decode cX11_init 30 = .ok (.newarray .int, 2) := by decide +kernel
theorem dX11_init_32 : decode cX11_init 32 = .ok (.dup, 1) := by decide +kernel
theorem dX11_init_33 : decode cX11_init 33 = .ok (.iconst 0, 1) := by decide +kernel
theorem dX11_init_34 : decode cX11_init 34 = .ok (.iconst 4, 1) := by decide +kernel
theorem dX11_init_35 : decode cX11_init 35 = .ok (.iastore, 1) := by decide +kernel
theorem dX11_init_36 : decode cX11_init 36 = .ok (.dup, 1) := by decide +kernel
theorem dX11_init_37 : decode cX11_init 37 = .ok (.iconst 1, 1) := by decide +kernel
theorem dX11_init_38 : decode cX11_init 38 = .ok (.iconst 2, 1) := by decide +kernel
theorem dX11_init_39 : decode cX11_init 39 = .ok (.iastore, 1) := by decide +kernel
theorem dX11_init_40 : decode cX11_init 40 = .ok (.dup, 1) := by decide +kernel
theorem dX11_init_41 : decode cX11_init 41 = .ok (.iconst 2, 1) := by decide +kernel
theorem dX11_init_42 : decode cX11_init 42 = .ok (.iconst 0, 1) := by decide +kernel
theorem dX11_init_43 : decode cX11_init 43 = .ok (.iastore, 1) := by decide +kernel
theorem dX11_init_44 : decode cX11_init 44 = .ok (.dup, 1) := by decide +kernel
theorem dX11_init_45 : decode cX11_init 45 = .ok (.iconst 3, 1) := by decide +kernel
theorem dX11_init_46 : decode cX11_init 46 = .ok (.iconst 0, 1) := by decide +kernel
theorem dX11_init_47 : decode cX11_init 47 = .ok (.iastore, 1) := by decide +kernel
theorem dX11_init_48 : decode cX11_init 48 = .ok (.dup, 1) := by decide +kernel
theorem dX11_init_49 : decode cX11_init 49 = .ok (.iconst 4, 1) := by decide +kernel
theorem dX11_init_50 : decode cX11_init 50 = .ok (.iconst 2, 1) := by decide +kernel
theorem dX11_init_51 : decode cX11_init 51 = .ok (.iastore, 1) := by decide +kernel
theorem dX11_init_52 : decode cX11_init 52 = .ok (.putfield 19, 3) := by decide +kernel
theorem dX11_init_55 : decode cX11_init 55 = .ok (.aload_n 0, 1) := by decide +kernel
theorem dX11_init_56 : decode cX11_init 56 = .ok (.iconst 1, 1) := by decide +kernel
theorem dX11_init_57 : decode cX11_init 57 = .ok (.putfield 22, 3) := by decide +kernel
theorem dX11_init_60 : decode cX11_init 60 = .ok (.aload_n 0, 1) := by decide +kernel
theorem dX11_init_61 : decode cX11_init 61 = .ok (.bipush 60, 2) := by decide +kernel
theorem dX11_init_63 : decode cX11_init 63 = .ok (.newarray .boolean, 2) := by decide +kernel
theorem dX11_init_65 : decode cX11_init 65 = .ok (.putfield 26, 3) := by decide +kernel
theorem dX11_init_68 : decode cX11_init 68 = .ok (.aload_n 0, 1) := by decide +kernel
theorem dX11_init_69 : decode cX11_init 69 = .ok (.sipush 3600, 3) := by decide +kernel
theorem dX11_init_72 : decode cX11_init 72 = .ok (.newarray .int, 2) := by decide +kernel
theorem dX11_init_74 : decode cX11_init 74 = .ok (.putfield 30, 3) := by decide +kernel
theorem dX11_init_77 : decode cX11_init 77 = .ok (.aload_n 0, 1) := by decide +kernel
theorem dX11_init_78 : decode cX11_init 78 = .ok (.bipush 60, 2) := by decide +kernel
theorem dX11_init_80 : decode cX11_init 80 = .ok (.newarray .int, 2) := by decide +kernel
theorem dX11_init_82 : decode cX11_init 82 = .ok (.putfield 33, 3) := by decide +kernel
theorem dX11_init_85 : decode cX11_init 85 = .ok (.aload_n 0, 1) := by decide +kernel
theorem dX11_init_86 : decode cX11_init 86 = .ok (.bipush 60, 2) := by decide +kernel
theorem dX11_init_88 : decode cX11_init 88 = .ok (.newarray .int, 2) := by decide +kernel
theorem dX11_init_90 : decode cX11_init 90 = .ok (.putfield 36, 3) := by decide +kernel
theorem dX11_init_93 : decode cX11_init 93 = .ok (.aload_n 0, 1) := by decide +kernel
theorem dX11_init_94 : decode cX11_init 94 = .ok (.iconst (-1), 1) := by decide +kernel
theorem dX11_init_95 : decode cX11_init 95 = .ok (.putfield 39, 3) := by decide +kernel
theorem dX11_init_98 : decode cX11_init 98 = .ok (.aload_n 0, 1) := by decide +kernel
theorem dX11_init_99 : decode cX11_init 99 = .ok (.iconst (-1), 1) := by decide +kernel
theorem dX11_init_100 : decode cX11_init 100 = .ok (.putfield 42, 3) := by decide +kernel
theorem dX11_init_103 : decode cX11_init 103 = .ok (.aload_n 0, 1) := by decide +kernel
theorem dX11_init_104 : decode cX11_init 104 = .ok (.sipush 200, 3) := by decide +kernel
theorem dX11_init_107 : decode cX11_init 107 = .ok (.newarray .byte, 2) := by decide +kernel
theorem dX11_init_109 : decode cX11_init 109 = .ok (.putfield 45, 3) := by decide +kernel
theorem dX11_init_112 : decode cX11_init 112 = .ok (.aload_n 0, 1) := by decide +kernel
theorem dX11_init_113 : decode cX11_init 113 = .ok (.sipush 200, 3) := by decide +kernel
theorem dX11_init_116 : decode cX11_init 116 = .ok (.newarray .byte, 2) := by decide +kernel
theorem dX11_init_118 : decode cX11_init 118 = .ok (.putfield 49, 3) := by decide +kernel
theorem dX11_init_121 : decode cX11_init 121 = .ok (.aload_n 0, 1) := by decide +kernel
theorem dX11_init_122 : decode cX11_init 122 = .ok (.sipush 20000, 3) := by decide +kernel
theorem dX11_init_125 : decode cX11_init 125 = .ok (.newarray .byte, 2) := by decide +kernel
theorem dX11_init_127 : decode cX11_init 127 = .ok (.putfield 52, 3) := by decide +kernel
theorem dX11_init_130 : decode cX11_init 130 = .ok (.aload_n 0, 1) := by decide +kernel
theorem dX11_init_131 : decode cX11_init 131 = .ok (.sipush 20000, 3) := by decide +kernel
theorem dX11_init_134 : decode cX11_init 134 = .ok (.newarray .byte, 2) := by decide +kernel
theorem dX11_init_136 : decode cX11_init 136 = .ok (.putfield 55, 3) := by decide +kernel
theorem dX11_init_139 : decode cX11_init 139 = .ok (.aload_n 0, 1) := by decide +kernel
theorem dX11_init_140 : decode cX11_init 140 = .ok (.bipush 100, 2) := by decide +kernel
theorem dX11_init_142 : decode cX11_init 142 = .ok (.newarray .int, 2) := by decide +kernel
theorem dX11_init_144 : decode cX11_init 144 = .ok (.putfield 58, 3) := by decide +kernel
theorem dX11_init_147 : decode cX11_init 147 = .ok (.aload_n 0, 1) := by decide +kernel
theorem dX11_init_148 : decode cX11_init 148 = .ok (.bipush 100, 2) := by decide +kernel
theorem dX11_init_150 : decode cX11_init 150 = .ok (.newarray .int, 2) := by decide +kernel
theorem dX11_init_152 : decode cX11_init 152 = .ok (.putfield 61, 3) := by decide +kernel
theorem dX11_init_155 : decode cX11_init 155 = .ok (.aload_n 0, 1) := by decide +kernel
theorem dX11_init_156 : decode cX11_init 156 = .ok (.iconst (-1), 1) := by decide +kernel
theorem dX11_init_157 : decode cX11_init 157 = .ok (.putfield 64, 3) := by decide +kernel
theorem dX11_init_160 : decode cX11_init 160 = .ok (.aload_n 0, 1) := by decide +kernel
theorem dX11_init_161 : decode cX11_init 161 = .ok (.bipush 26, 2) := by decide +kernel
theorem dX11_init_163 : decode cX11_init 163 = .ok (.newarray .byte, 2) := by decide +kernel
theorem dX11_init_165 : decode cX11_init 165 = .ok (.putfield 67, 3) := by decide +kernel
theorem dX11_init_168 : decode cX11_init 168 = .ok (.aload_n 0, 1) := by decide +kernel
theorem dX11_init_169 : decode cX11_init 169 = .ok (.sipush 480, 3) := by decide +kernel
theorem dX11_init_172 : decode cX11_init 172 = .ok (.newarray .byte, 2) := by decide +kernel
theorem dX11_init_174 : decode cX11_init 174 = .ok (.putfield 70, 3) := by decide +kernel
theorem dX11_init_177 : decode cX11_init 177 = .ok (.aload_n 0, 1) := by decide +kernel
theorem dX11_init_178 : decode cX11_init 178 = .ok (.bipush 40, 2) := by decide +kernel
theorem dX11_init_180 : decode cX11_init 180 = .ok (.newarray .int, 2) := by decide +kernel
theorem dX11_init_182 : decode cX11_init 182 = .ok (.putfield 73, 3) := by decide +kernel
theorem dX11_init_185 : decode cX11_init 185 = .ok (.aload_n 0, 1) := by decide +kernel
theorem dX11_init_186 : decode cX11_init 186 = .ok (.bipush 40, 2) := by decide +kernel
theorem dX11_init_188 : decode cX11_init 188 = .ok (.newarray .int, 2) := by decide +kernel
theorem dX11_init_190 : decode cX11_init 190 = .ok (.putfield 76, 3) := by decide +kernel
theorem dX11_init_193 : decode cX11_init 193 = .ok (.aload_n 0, 1) := by decide +kernel
theorem dX11_init_194 : decode cX11_init 194 = .ok (.bipush 40, 2) := by decide +kernel
theorem dX11_init_196 : decode cX11_init 196 = .ok (.newarray .int, 2) := by decide +kernel
theorem dX11_init_198 : decode cX11_init 198 = .ok (.putfield 79, 3) := by decide +kernel
theorem dX11_init_201 : decode cX11_init 201 = .ok (.aload_n 0, 1) := by decide +kernel
theorem dX11_init_202 : decode cX11_init 202 = .ok (.bipush 26, 2) := by decide +kernel
theorem dX11_init_204 : decode cX11_init 204 = .ok (.newarray .int, 2) := by decide +kernel
theorem dX11_init_206 : decode cX11_init 206 = .ok (.putfield 82, 3) := by decide +kernel
theorem dX11_init_209 : decode cX11_init 209 = .ok (.aload_n 0, 1) := by decide +kernel
theorem dX11_init_210 : decode cX11_init 210 = .ok (.sipush 20412, 3) := by decide +kernel
theorem dX11_init_213 : decode cX11_init 213 = .ok (.newarray .long, 2) := by decide +kernel
theorem dX11_init_215 : decode cX11_init 215 = .ok (.putfield 85, 3) := by decide +kernel
theorem dX11_init_218 : decode cX11_init 218 = .ok (.aload_n 0, 1) := by decide +kernel
theorem dX11_init_219 : decode cX11_init 219 = .ok (.sipush 729, 3) := by decide +kernel
theorem dX11_init_222 : decode cX11_init 222 = .ok (.newarray .long, 2) := by decide +kernel
theorem dX11_init_224 : decode cX11_init 224 = .ok (.putfield 89, 3) := by decide +kernel
theorem dX11_init_227 : decode cX11_init 227 = .ok (.aload_n 0, 1) := by decide +kernel
theorem dX11_init_228 : decode cX11_init 228 = .ok (.bipush 26, 2) := by decide +kernel
theorem dX11_init_230 : decode cX11_init 230 = .ok (.newarray .byte, 2) := by decide +kernel
theorem dX11_init_232 : decode cX11_init 232 = .ok (.putfield 92, 3) := by decide +kernel
theorem dX11_init_235 : decode cX11_init 235 = .ok (.aload_n 0, 1) := by decide +kernel
theorem dX11_init_236 : decode cX11_init 236 = .ok (.getfield 16, 3) := by decide +kernel
theorem dX11_init_239 : decode cX11_init 239 = .ok (.iconst 0, 1) := by decide +kernel
theorem dX11_init_240 : decode cX11_init 240 = .ok (.iconst (-1), 1) := by decide +kernel
theorem dX11_init_241 : decode cX11_init 241 = .ok (.iastore, 1) := by decide +kernel
theorem dX11_init_242 : decode cX11_init 242 = .ok (.aload_n 0, 1) := by decide +kernel
theorem dX11_init_243 : decode cX11_init 243 = .ok (.getfield 13, 3) := by decide +kernel
theorem dX11_init_246 : decode cX11_init 246 = .ok (.iconst 0, 1) := by decide +kernel
theorem dX11_init_247 : decode cX11_init 247 = .ok (.iconst (-1), 1) := by decide +kernel
theorem dX11_init_248 : decode cX11_init 248 = .ok (.iastore, 1) := by decide +kernel
theorem dX11_init_249 : decode cX11_init 249 = .ok (.aload_n 0, 1) := by decide +kernel
theorem dX11_init_250 : decode cX11_init 250 = .ok (.invokevirtual 95, 3) := by decide +kernel
theorem dX11_init_253 : decode cX11_init 253 = .ok (.return_, 1) := by decide +kernel
theorem dX11_thrown_0 : decode cX11_thrown 0 = .ok (.aload_n 0, 1) := by decide +kernel
theorem dX11_thrown_1 : decode cX11_thrown 1 = .ok (.getfield 98, 3) := by decide +kernel
theorem dX11_thrown_4 : decode cX11_thrown 4 = .ok (.ireturn, 1) := by decide +kernel
theorem dX11_isIn_0 : decode cX11_isIn 0 = .ok (.iload_n 0, 1) := by decide +kernel
theorem dX11_isIn_1 : decode cX11_isIn 1 = .ok (.iload_n 1, 1) := by decide +kernel
theorem dX11_isIn_2 : decode cX11_isIn 2 = .ok (.if_icmp .lt 12, 3) := by decide +kernel
theorem dX11_isIn_5 : decode cX11_isIn 5 = .ok (.iload_n 0, 1) := by decide +kernel
theorem dX11_isIn_6 : decode cX11_isIn 6 = .ok (.iload_n 2, 1) := by decide +kernel
theorem dX11_isIn_7 : decode cX11_isIn 7 = .ok (.if_icmp .gt 7, 3) := by decide +kernel
theorem dX11_isIn_10 : decode cX11_isIn 10 = .ok (.iconst 1, 1) := by decide +kernel
theorem dX11_isIn_11 : decode cX11_isIn 11 = .ok (.goto 4, 3) := by decide +kernel
theorem dX11_isIn_14 : decode cX11_isIn 14 = .ok (.iconst 0, 1) := by decide +kernel
theorem dX11_isIn_15 : decode cX11_isIn 15 = .ok (.ireturn, 1) := by decide +kernel
theorem dX11_isNode_0 : decode cX11_isNode 0 = .ok (.iload_n 1, 1) := by decide +kernel
theorem dX11_isNode_1 : decode cX11_isNode 1 = .ok (.ifCond .lt 15, 3) := by decide +kernel
theorem dX11_isNode_4 : decode cX11_isNode 4 = .ok (.iload_n 1, 1) := by decide +kernel
theorem dX11_isNode_5 : decode cX11_isNode 5 = .ok (.aload_n 0, 1) := by decide +kernel
theorem dX11_isNode_6 : decode cX11_isNode 6 = .ok (.getfield 22, 3) := by decide +kernel
theorem dX11_isNode_9 : decode cX11_isNode 9 = .ok (.if_icmp .ge 7, 3) := by decide +kernel
theorem dX11_isNode_12 : decode cX11_isNode 12 = .ok (.iconst 1, 1) := by decide +kernel
theorem dX11_isNode_13 : decode cX11_isNode 13 = .ok (.goto 4, 3) := by decide +kernel
theorem dX11_isNode_16 : decode cX11_isNode 16 = .ok (.iconst 0, 1) := by decide +kernel
theorem dX11_isNode_17 : decode cX11_isNode 17 = .ok (.ireturn, 1) := by decide +kernel
theorem dX11_isSmall_0 : decode cX11_isSmall 0 = .ok (.iload_n 0, 1) := by decide +kernel
theorem dX11_isSmall_1 : decode cX11_isSmall 1 = .ok (.bipush 97, 2) := by decide +kernel
theorem dX11_isSmall_3 : decode cX11_isSmall 3 = .ok (.if_icmp .lt 13, 3) := by decide +kernel
theorem dX11_isSmall_6 : decode cX11_isSmall 6 = .ok (.iload_n 0, 1) := by decide +kernel
theorem dX11_isSmall_7 : decode cX11_isSmall 7 = .ok (.bipush 122, 2) := by decide +kernel
theorem dX11_isSmall_9 : decode cX11_isSmall 9 = .ok (.if_icmp .gt 7, 3) := by decide +kernel
theorem dX11_isSmall_12 : decode cX11_isSmall 12 = .ok (.iconst 1, 1) := by decide +kernel
theorem dX11_isSmall_13 : decode cX11_isSmall 13 = .ok (.goto 4, 3) := by decide +kernel
theorem dX11_isSmall_16 : decode cX11_isSmall 16 = .ok (.iconst 0, 1) := by decide +kernel
theorem dX11_isSmall_17 : decode cX11_isSmall 17 = .ok (.ireturn, 1) := by decide +kernel
theorem dX11_looks_0 : decode cX11_looks 0 = .ok (.iconst 0, 1) := by decide +kernel
theorem dX11_looks_1 : decode cX11_looks 1 = .ok (.istore_n 1, 1) := by decide +kernel
theorem dX11_looks_2 : decode cX11_looks 2 = .ok (.iload_n 1, 1) := by decide +kernel
theorem dX11_looks_3 : decode cX11_looks 3 = .ok (.aload_n 0, 1) := by decide +kernel
theorem dX11_looks_4 : decode cX11_looks 4 = .ok (.getfield 22, 3) := by decide +kernel
theorem dX11_looks_7 : decode cX11_looks 7 = .ok (.if_icmp .ge 43, 3) := by decide +kernel
theorem dX11_looks_10 : decode cX11_looks 10 = .ok (.aload_n 0, 1) := by decide +kernel
theorem dX11_looks_11 : decode cX11_looks 11 = .ok (.getfield 26, 3) := by decide +kernel
theorem dX11_looks_14 : decode cX11_looks 14 = .ok (.iload_n 1, 1) := by decide +kernel
theorem dX11_looks_15 : decode cX11_looks 15 = .ok (.aload_n 0, 1) := by decide +kernel
theorem dX11_looks_16 : decode cX11_looks 16 = .ok (.getfield 9, 3) := by decide +kernel
theorem dX11_looks_19 : decode cX11_looks 19 = .ok (.iload_n 1, 1) := by decide +kernel
theorem dX11_looks_20 : decode cX11_looks 20 = .ok (.iaload, 1) := by decide +kernel
theorem dX11_looks_21 : decode cX11_looks 21 = .ok (.ifCond .eq 7, 3) := by decide +kernel
theorem dX11_looks_24 : decode cX11_looks 24 = .ok (.iconst 1, 1) := by decide +kernel
theorem dX11_looks_25 : decode cX11_looks 25 = .ok (.goto 4, 3) := by decide +kernel
theorem dX11_looks_28 : decode cX11_looks 28 = .ok (.iconst 0, 1) := by decide +kernel
theorem dX11_looks_29 : decode cX11_looks 29 = .ok (.bastore, 1) := by decide +kernel
theorem dX11_looks_30 : decode cX11_looks 30 = .ok (.aload_n 0, 1) := by decide +kernel
theorem dX11_looks_31 : decode cX11_looks 31 = .ok (.getfield 33, 3) := by decide +kernel
theorem dX11_looks_34 : decode cX11_looks 34 = .ok (.iload_n 1, 1) := by decide +kernel
theorem dX11_looks_35 : decode cX11_looks 35 = .ok (.iconst 0, 1) := by decide +kernel
theorem dX11_looks_36 : decode cX11_looks 36 = .ok (.iastore, 1) := by decide +kernel
theorem dX11_looks_37 : decode cX11_looks 37 = .ok (.aload_n 0, 1) := by decide +kernel
theorem dX11_looks_38 : decode cX11_looks 38 = .ok (.getfield 36, 3) := by decide +kernel
theorem dX11_looks_41 : decode cX11_looks 41 = .ok (.iload_n 1, 1) := by decide +kernel
theorem dX11_looks_42 : decode cX11_looks 42 = .ok (.iconst (-1), 1) := by decide +kernel
theorem dX11_looks_43 : decode cX11_looks 43 = .ok (.iastore, 1) := by decide +kernel
theorem dX11_looks_44 : decode cX11_looks 44 = .ok (.iinc 1 1, 3) := by decide +kernel
theorem dX11_looks_47 : decode cX11_looks 47 = .ok (.goto (-45), 3) := by decide +kernel
theorem dX11_looks_50 : decode cX11_looks 50 = .ok (.aload_n 0, 1) := by decide +kernel
theorem dX11_looks_51 : decode cX11_looks 51 = .ok (.getfield 22, 3) := by decide +kernel
theorem dX11_looks_54 : decode cX11_looks 54 = .ok (.iconst 1, 1) := by decide +kernel
theorem dX11_looks_55 : decode cX11_looks 55 = .ok (.isub, 1) := by decide +kernel
theorem dX11_looks_56 : decode cX11_looks 56 = .ok (.istore_n 1, 1) := by decide +kernel
theorem dX11_looks_57 : decode cX11_looks 57 = .ok (.iload_n 1, 1) := by decide +kernel
theorem dX11_looks_58 : decode cX11_looks 58 = .ok (.ifCond .le 48, 3) := by decide +kernel
theorem dX11_looks_61 : decode cX11_looks 61 = .ok (.aload_n 0, 1) := by decide +kernel
theorem dX11_looks_62 : decode cX11_looks 62 = .ok (.getfield 26, 3) := by decide +kernel
theorem dX11_looks_65 : decode cX11_looks 65 = .ok (.aload_n 0, 1) := by decide +kernel
theorem dX11_looks_66 : decode cX11_looks 66 = .ok (.getfield 16, 3) := by decide +kernel
theorem dX11_looks_69 : decode cX11_looks 69 = .ok (.iload_n 1, 1) := by decide +kernel
theorem dX11_looks_70 : decode cX11_looks 70 = .ok (.iaload, 1) := by decide +kernel
theorem dX11_looks_71 : decode cX11_looks 71 = .ok (.aload_n 0, 1) := by decide +kernel
theorem dX11_looks_72 : decode cX11_looks 72 = .ok (.getfield 26, 3) := by decide +kernel
theorem dX11_looks_75 : decode cX11_looks 75 = .ok (.aload_n 0, 1) := by decide +kernel
theorem dX11_looks_76 : decode cX11_looks 76 = .ok (.getfield 16, 3) := by decide +kernel
theorem dX11_looks_79 : decode cX11_looks 79 = .ok (.iload_n 1, 1) := by decide +kernel
theorem dX11_looks_80 : decode cX11_looks 80 = .ok (.iaload, 1) := by decide +kernel
theorem dX11_looks_81 : decode cX11_looks 81 = .ok (.baload, 1) := by decide +kernel
theorem dX11_looks_82 : decode cX11_looks 82 = .ok (.ifCond .ne 12, 3) := by decide +kernel
theorem dX11_looks_85 : decode cX11_looks 85 = .ok (.aload_n 0, 1) := by decide +kernel
theorem dX11_looks_86 : decode cX11_looks 86 = .ok (.getfield 26, 3) := by decide +kernel
theorem dX11_looks_89 : decode cX11_looks 89 = .ok (.iload_n 1, 1) := by decide +kernel
theorem dX11_looks_90 : decode cX11_looks 90 = .ok (.baload, 1) := by decide +kernel
theorem dX11_looks_91 : decode cX11_looks 91 = .ok (.ifCond .eq 7, 3) := by decide +kernel
theorem dX11_looks_94 : decode cX11_looks 94 = .ok (.iconst 1, 1) := by decide +kernel
theorem dX11_looks_95 : decode cX11_looks 95 = .ok (.goto 4, 3) := by decide +kernel
theorem dX11_looks_98 : decode cX11_looks 98 = .ok (.iconst 0, 1) := by decide +kernel
theorem dX11_looks_99 : decode cX11_looks 99 = .ok (.bastore, 1) := by decide +kernel
theorem dX11_looks_100 : decode cX11_looks 100 = .ok (.iinc 1 (-1), 3) := by decide +kernel
theorem dX11_looks_103 : decode cX11_looks 103 = .ok (.goto (-46), 3) := by decide +kernel
theorem dX11_looks_106 : decode cX11_looks 106 = .ok (.iconst 1, 1) := by decide +kernel
theorem dX11_looks_107 : decode cX11_looks 107 = .ok (.istore_n 1, 1) := by decide +kernel
theorem dX11_looks_108 : decode cX11_looks 108 = .ok (.iload_n 1, 1) := by decide +kernel
theorem dX11_looks_109 : decode cX11_looks 109 = .ok (.aload_n 0, 1) := by decide +kernel
theorem dX11_looks_110 : decode cX11_looks 110 = .ok (.getfield 22, 3) := by decide +kernel
theorem dX11_looks_113 : decode cX11_looks 113 = .ok (.if_icmp .ge 67, 3) := by decide +kernel
theorem dX11_looks_116 : decode cX11_looks 116 = .ok (.aload_n 0, 1) := by decide +kernel
theorem dX11_looks_117 : decode cX11_looks 117 = .ok (.getfield 26, 3) := by decide +kernel
theorem dX11_looks_120 : decode cX11_looks 120 = .ok (.iload_n 1, 1) := by decide +kernel
theorem dX11_looks_121 : decode cX11_looks 121 = .ok (.baload, 1) := by decide +kernel
theorem dX11_looks_122 : decode cX11_looks 122 = .ok (.ifCond .ne 6, 3) := by decide +kernel
theorem dX11_looks_125 : decode cX11_looks 125 = .ok (.goto 49, 3) := by decide +kernel
theorem dX11_looks_128 : decode cX11_looks 128 = .ok (.aload_n 0, 1) := by decide +kernel
theorem dX11_looks_129 : decode cX11_looks 129 = .ok (.getfield 16, 3) := by decide +kernel
theorem dX11_looks_132 : decode cX11_looks 132 = .ok (.iload_n 1, 1) := by decide +kernel
theorem dX11_looks_133 : decode cX11_looks 133 = .ok (.iaload, 1) := by decide +kernel
theorem dX11_looks_134 : decode cX11_looks 134 = .ok (.istore_n 2, 1) := by decide +kernel
theorem dX11_looks_135 : decode cX11_looks 135 = .ok (.aload_n 0, 1) := by decide +kernel
theorem dX11_looks_136 : decode cX11_looks 136 = .ok (.getfield 30, 3) := by decide +kernel
theorem dX11_looks_139 : decode cX11_looks 139 = .ok (.bipush 60, 2) := by decide +kernel
theorem dX11_looks_141 : decode cX11_looks 141 = .ok (.iload_n 2, 1) := by decide +kernel
theorem dX11_looks_142 : decode cX11_looks 142 = .ok (.imul, 1) := by decide +kernel
theorem dX11_looks_143 : decode cX11_looks 143 = .ok (.aload_n 0, 1) := by decide +kernel
theorem dX11_looks_144 : decode cX11_looks 144 = .ok (.getfield 33, 3) := by decide +kernel
theorem dX11_looks_147 : decode cX11_looks 147 = .ok (.iload_n 2, 1) := by decide +kernel
theorem dX11_looks_148 : decode cX11_looks 148 = .ok (.iaload, 1) := by decide +kernel
theorem dX11_looks_149 : decode cX11_looks 149 = .ok (.iadd, 1) := by decide +kernel
theorem dX11_looks_150 : decode cX11_looks 150 = .ok (.iload_n 1, 1) := by decide +kernel
theorem dX11_looks_151 : decode cX11_looks 151 = .ok (.iastore, 1) := by decide +kernel
theorem dX11_looks_152 : decode cX11_looks 152 = .ok (.aload_n 0, 1) := by decide +kernel
theorem dX11_looks_153 : decode cX11_looks 153 = .ok (.getfield 33, 3) := by decide +kernel
theorem dX11_looks_156 : decode cX11_looks 156 = .ok (.iload_n 2, 1) := by decide +kernel
theorem dX11_looks_157 : decode cX11_looks 157 = .ok (.dup2, 1) := by decide +kernel
theorem dX11_looks_158 : decode cX11_looks 158 = .ok (.iaload, 1) := by decide +kernel
theorem dX11_looks_159 : decode cX11_looks 159 = .ok (.iconst 1, 1) := by decide +kernel
theorem dX11_looks_160 : decode cX11_looks 160 = .ok (.iadd, 1) := by decide +kernel
theorem dX11_looks_161 : decode cX11_looks 161 = .ok (.iastore, 1) := by decide +kernel
theorem dX11_looks_162 : decode cX11_looks 162 = .ok (.aload_n 0, 1) := by decide +kernel
theorem dX11_looks_163 : decode cX11_looks 163 = .ok (.getfield 36, 3) := by decide +kernel
theorem dX11_looks_166 : decode cX11_looks 166 = .ok (.iload_n 1, 1) := by decide +kernel
theorem dX11_looks_167 : decode cX11_looks 167 = .ok (.aload_n 0, 1) := by decide +kernel
theorem dX11_looks_168 : decode cX11_looks 168 = .ok (.getfield 33, 3) := by decide +kernel
theorem dX11_looks_171 : decode cX11_looks 171 = .ok (.iload_n 2, 1) := by decide +kernel
theorem dX11_looks_172 : decode cX11_looks 172 = .ok (.iaload, 1) := by decide +kernel
theorem dX11_looks_173 : decode cX11_looks 173 = .ok (.iastore, 1) := by decide +kernel
theorem dX11_looks_174 : decode cX11_looks 174 = .ok (.iinc 1 1, 3) := by decide +kernel
theorem dX11_looks_177 : decode cX11_looks 177 = .ok (.goto (-69), 3) := by decide +kernel
theorem dX11_looks_180 : decode cX11_looks 180 = .ok (.return_, 1) := by decide +kernel
theorem dX11_hasKey_0 : decode cX11_hasKey 0 = .ok (.aload_n 0, 1) := by decide +kernel
theorem dX11_hasKey_1 : decode cX11_hasKey 1 = .ok (.getfield 26, 3) := by decide +kernel
theorem dX11_hasKey_4 : decode cX11_hasKey 4 = .ok (.iload_n 1, 1) := by decide +kernel
theorem dX11_hasKey_5 : decode cX11_hasKey 5 = .ok (.baload, 1) := by decide +kernel
theorem dX11_hasKey_6 : decode cX11_hasKey 6 = .ok (.ireturn, 1) := by decide +kernel
theorem dX11_light_0 : decode cX11_light 0 = .ok (.iload_n 2, 1) := by decide +kernel
theorem dX11_light_1 : decode cX11_light 1 = .ok (.aload_n 0, 1) := by decide +kernel
theorem dX11_light_2 : decode cX11_light 2 = .ok (.getfield 33, 3) := by decide +kernel
theorem dX11_light_5 : decode cX11_light 5 = .ok (.iload_n 1, 1) := by decide +kernel
theorem dX11_light_6 : decode cX11_light 6 = .ok (.iaload, 1) := by decide +kernel
theorem dX11_light_7 : decode cX11_light 7 = .ok (.if_icmp .ge 17, 3) := by decide +kernel
theorem dX11_light_10 : decode cX11_light 10 = .ok (.aload_n 0, 1) := by decide +kernel
theorem dX11_light_11 : decode cX11_light 11 = .ok (.getfield 30, 3) := by decide +kernel
theorem dX11_light_14 : decode cX11_light 14 = .ok (.bipush 60, 2) := by decide +kernel
theorem dX11_light_16 : decode cX11_light 16 = .ok (.iload_n 1, 1) := by decide +kernel
theorem dX11_light_17 : decode cX11_light 17 = .ok (.imul, 1) := by decide +kernel
theorem dX11_light_18 : decode cX11_light 18 = .ok (.iload_n 2, 1) := by decide +kernel
theorem dX11_light_19 : decode cX11_light 19 = .ok (.iadd, 1) := by decide +kernel
theorem dX11_light_20 : decode cX11_light 20 = .ok (.iaload, 1) := by decide +kernel
theorem dX11_light_21 : decode cX11_light 21 = .ok (.goto 4, 3) := by decide +kernel
theorem dX11_light_24 : decode cX11_light 24 = .ok (.iconst (-1), 1) := by decide +kernel
theorem dX11_light_25 : decode cX11_light 25 = .ok (.ireturn, 1) := by decide +kernel
theorem dX11_lights_0 : decode cX11_lights 0 = .ok (.aload_n 0, 1) := by decide +kernel
theorem dX11_lights_1 : decode cX11_lights 1 = .ok (.getfield 33, 3) := by decide +kernel
theorem dX11_lights_4 : decode cX11_lights 4 = .ok (.iload_n 1, 1) := by decide +kernel
theorem dX11_lights_5 : decode cX11_lights 5 = .ok (.iaload, 1) := by decide +kernel
theorem dX11_lights_6 : decode cX11_lights 6 = .ok (.ireturn, 1) := by decide +kernel
theorem dX11_placeOf_0 : decode cX11_placeOf 0 = .ok (.aload_n 0, 1) := by decide +kernel
theorem dX11_placeOf_1 : decode cX11_placeOf 1 = .ok (.getfield 36, 3) := by decide +kernel
theorem dX11_placeOf_4 : decode cX11_placeOf 4 = .ok (.iload_n 1, 1) := by decide +kernel
theorem dX11_placeOf_5 : decode cX11_placeOf 5 = .ok (.iaload, 1) := by decide +kernel
theorem dX11_placeOf_6 : decode cX11_placeOf 6 = .ok (.ireturn, 1) := by decide +kernel
theorem dX11_comes_0 : decode cX11_comes 0 = .ok (.aload_n 0, 1) := by decide +kernel
theorem dX11_comes_1 : decode cX11_comes 1 = .ok (.iload_n 1, 1) := by decide +kernel
theorem dX11_comes_2 : decode cX11_comes 2 = .ok (.putfield 101, 3) := by decide +kernel
theorem dX11_comes_5 : decode cX11_comes 5 = .ok (.aload_n 0, 1) := by decide +kernel
theorem dX11_comes_6 : decode cX11_comes 6 = .ok (.iconst 0, 1) := by decide +kernel
theorem dX11_comes_7 : decode cX11_comes 7 = .ok (.putfield 104, 3) := by decide +kernel
theorem dX11_comes_10 : decode cX11_comes 10 = .ok (.aload_n 0, 1) := by decide +kernel
theorem dX11_comes_11 : decode cX11_comes 11 = .ok (.iconst (-1), 1) := by decide +kernel
theorem dX11_comes_12 : decode cX11_comes 12 = .ok (.putfield 39, 3) := by decide +kernel
theorem dX11_comes_15 : decode cX11_comes 15 = .ok (.aload_n 0, 1) := by decide +kernel
theorem dX11_comes_16 : decode cX11_comes 16 = .ok (.aload_n 0, 1) := by decide +kernel
theorem dX11_comes_17 : decode cX11_comes 17 = .ok (.getfield 107, 3) := by decide +kernel
theorem dX11_comes_20 : decode cX11_comes 20 = .ok (.putfield 110, 3) := by decide +kernel
theorem dX11_comes_23 : decode cX11_comes 23 = .ok (.aload_n 0, 1) := by decide +kernel
theorem dX11_comes_24 : decode cX11_comes 24 = .ok (.iconst 0, 1) := by decide +kernel
theorem dX11_comes_25 : decode cX11_comes 25 = .ok (.putfield 113, 3) := by decide +kernel
theorem dX11_comes_28 : decode cX11_comes 28 = .ok (.return_, 1) := by decide +kernel
theorem dX11_node_0 : decode cX11_node 0 = .ok (.aload_n 0, 1) := by decide +kernel
theorem dX11_node_1 : decode cX11_node 1 = .ok (.iconst 0, 1) := by decide +kernel
theorem dX11_node_2 : decode cX11_node 2 = .ok (.putfield 98, 3) := by decide +kernel
theorem dX11_node_5 : decode cX11_node 5 = .ok (.aload_n 0, 1) := by decide +kernel
theorem dX11_node_6 : decode cX11_node 6 = .ok (.getfield 22, 3) := by decide +kernel
theorem dX11_node_9 : decode cX11_node 9 = .ok (.bipush 60, 2) := by decide +kernel
theorem dX11_node_11 : decode cX11_node 11 = .ok (.if_icmp .eq 30, 3) := by decide +kernel
theorem dX11_node_14 : decode cX11_node 14 = .ok (.aload_n 0, 1) := by decide +kernel
theorem dX11_node_15 : decode cX11_node 15 = .ok (.iload_n 1, 1) := by decide +kernel
theorem dX11_node_16 : decode cX11_node 16 = .ok (.invokevirtual 116, 3) := by decide +kernel
theorem dX11_node_19 : decode cX11_node 19 = .ok (.ifCond .eq 22, 3) := by decide +kernel
theorem dX11_node_22 : decode cX11_node 22 = .ok (.aload_n 0, 1) := by decide +kernel
theorem dX11_node_23 : decode cX11_node 23 = .ok (.getfield 9, 3) := by decide +kernel
theorem dX11_node_26 : decode cX11_node 26 = .ok (.iload_n 1, 1) := by decide +kernel
theorem dX11_node_27 : decode cX11_node 27 = .ok (.iaload, 1) := by decide +kernel
theorem dX11_node_28 : decode cX11_node 28 = .ok (.ifCond .ne 13, 3) := by decide +kernel
theorem dX11_node_31 : decode cX11_node 31 = .ok (.iload_n 2, 1) := by decide +kernel
theorem dX11_node_32 : decode cX11_node 32 = .ok (.iconst 0, 1) := by decide +kernel
theorem dX11_node_33 : decode cX11_node 33 = .ok (.bipush 6, 2) := by decide +kernel
theorem dX11_node_35 : decode cX11_node 35 = .ok (.invokestatic 120, 3) := by decide +kernel
theorem dX11_node_38 : decode cX11_node 38 = .ok (.ifCond .ne 5, 3) := by decide +kernel
theorem dX11_node_41 : decode cX11_node 41 = .ok (.iconst (-1), 1) := by decide +kernel
theorem dX11_node_42 : decode cX11_node 42 = .ok (.ireturn, 1) := by decide +kernel
theorem dX11_node_43 : decode cX11_node 43 = .ok (.iload_n 2, 1) := by decide +kernel
theorem dX11_node_44 : decode cX11_node 44 = .ok (.iconst 1, 1) := by decide +kernel
theorem dX11_node_45 : decode cX11_node 45 = .ok (.if_icmp .eq 14, 3) := by decide +kernel
theorem dX11_node_48 : decode cX11_node 48 = .ok (.iload_n 2, 1) := by decide +kernel
theorem dX11_node_49 : decode cX11_node 49 = .ok (.iconst 4, 1) := by decide +kernel
theorem dX11_node_50 : decode cX11_node 50 = .ok (.if_icmp .eq 9, 3) := by decide +kernel
theorem dX11_node_53 : decode cX11_node 53 = .ok (.iload_n 2, 1) := by decide +kernel
theorem dX11_node_54 : decode cX11_node 54 = .ok (.bipush 6, 2) := by decide +kernel
theorem dX11_node_56 : decode cX11_node 56 = .ok (.if_icmp .ne 7, 3) := by decide +kernel
theorem dX11_node_59 : decode cX11_node 59 = .ok (.iconst 1, 1) := by decide +kernel
theorem dX11_node_60 : decode cX11_node 60 = .ok (.goto 4, 3) := by decide +kernel
theorem dX11_node_63 : decode cX11_node 63 = .ok (.iconst 0, 1) := by decide +kernel
theorem dX11_node_64 : decode cX11_node 64 = .ok (.istore 4, 2) := by decide +kernel
theorem dX11_node_66 : decode cX11_node 66 = .ok (.iload_n 2, 1) := by decide +kernel
theorem dX11_node_67 : decode cX11_node 67 = .ok (.iconst 1, 1) := by decide +kernel
theorem dX11_node_68 : decode cX11_node 68 = .ok (.if_icmp .ne 19, 3) := by decide +kernel
theorem dX11_node_71 : decode cX11_node 71 = .ok (.iload_n 3, 1) := by decide +kernel
theorem dX11_node_72 : decode cX11_node 72 = .ok (.invokestatic 124, 3) := by decide +kernel
theorem dX11_node_75 : decode cX11_node 75 = .ok (.ifCond .ne 28, 3) := by decide +kernel
theorem dX11_node_78 : decode cX11_node 78 = .ok (.iload_n 3, 1) := by decide +kernel
theorem dX11_node_79 : decode cX11_node 79 = .ok (.bipush 32, 2) := by decide +kernel
theorem dX11_node_81 : decode cX11_node 81 = .ok (.if_icmp .eq 22, 3) := by decide +kernel
theorem dX11_node_84 : decode cX11_node 84 = .ok (.goto 17, 3) := by decide +kernel
theorem dX11_node_87 : decode cX11_node 87 = .ok (.iload 4, 2) := by decide +kernel
theorem dX11_node_89 : decode cX11_node 89 = .ok (.ifCond .eq 14, 3) := by decide +kernel
theorem dX11_node_92 : decode cX11_node 92 = .ok (.iload_n 3, 1) := by decide +kernel
theorem dX11_node_93 : decode cX11_node 93 = .ok (.iconst 0, 1) := by decide +kernel
theorem dX11_node_94 : decode cX11_node 94 = .ok (.iconst 4, 1) := by decide +kernel
theorem dX11_node_95 : decode cX11_node 95 = .ok (.invokestatic 120, 3) := by decide +kernel
theorem dX11_node_98 : decode cX11_node 98 = .ok (.ifCond .ne 5, 3) := by decide +kernel
theorem dX11_node_101 : decode cX11_node 101 = .ok (.iconst (-1), 1) := by decide +kernel
theorem dX11_node_102 : decode cX11_node 102 = .ok (.ireturn, 1) := by decide +kernel
theorem dX11_node_103 : decode cX11_node 103 = .ok (.aload_n 0, 1) := by decide +kernel
theorem dX11_node_104 : decode cX11_node 104 = .ok (.iload_n 1, 1) := by decide +kernel
theorem dX11_node_105 : decode cX11_node 105 = .ok (.iload_n 2, 1) := by decide +kernel
theorem dX11_node_106 : decode cX11_node 106 = .ok (.iload 4, 2) := by decide +kernel
theorem dX11_node_108 : decode cX11_node 108 = .ok (.ifCond .eq 7, 3) := by decide +kernel
theorem dX11_node_111 : decode cX11_node 111 = .ok (.iload_n 3, 1) := by decide +kernel
theorem dX11_node_112 : decode cX11_node 112 = .ok (.goto 4, 3) := by decide +kernel
theorem dX11_node_115 : decode cX11_node 115 = .ok (.iconst (-1), 1) := by decide +kernel
theorem dX11_node_116 : decode cX11_node 116 = .ok (.invokevirtual 127, 3) := by decide +kernel
theorem dX11_node_119 : decode cX11_node 119 = .ok (.pop, 1) := by decide +kernel
theorem dX11_node_120 : decode cX11_node 120 = .ok (.aload_n 0, 1) := by decide +kernel
theorem dX11_node_121 : decode cX11_node 121 = .ok (.invokevirtual 95, 3) := by decide +kernel
theorem dX11_node_124 : decode cX11_node 124 = .ok (.aload_n 0, 1) := by decide +kernel
theorem dX11_node_125 : decode cX11_node 125 = .ok (.iconst 0, 1) := by decide +kernel
theorem dX11_node_126 : decode cX11_node 126 = .ok (.invokevirtual 131, 3) := by decide +kernel
theorem dX11_node_129 : decode cX11_node 129 = .ok (.aload_n 0, 1) := by decide +kernel
theorem dX11_node_130 : decode cX11_node 130 = .ok (.getfield 22, 3) := by decide +kernel
theorem dX11_node_133 : decode cX11_node 133 = .ok (.iconst 1, 1) := by decide +kernel
theorem dX11_node_134 : decode cX11_node 134 = .ok (.isub, 1) := by decide +kernel
theorem dX11_node_135 : decode cX11_node 135 = .ok (.ireturn, 1) := by decide +kernel
theorem dX11_adds_0 : decode cX11_adds 0 = .ok (.aload_n 0, 1) := by decide +kernel
theorem dX11_adds_1 : decode cX11_adds 1 = .ok (.getfield 9, 3) := by decide +kernel
theorem dX11_adds_4 : decode cX11_adds 4 = .ok (.aload_n 0, 1) := by decide +kernel
theorem dX11_adds_5 : decode cX11_adds 5 = .ok (.getfield 22, 3) := by decide +kernel
theorem dX11_adds_8 : decode cX11_adds 8 = .ok (.iload_n 2, 1) := by decide +kernel
theorem dX11_adds_9 : decode cX11_adds 9 = .ok (.iastore, 1) := by decide +kernel
theorem dX11_adds_10 : decode cX11_adds 10 = .ok (.aload_n 0, 1) := by decide +kernel
theorem dX11_adds_11 : decode cX11_adds 11 = .ok (.getfield 13, 3) := by decide +kernel
theorem dX11_adds_14 : decode cX11_adds 14 = .ok (.aload_n 0, 1) := by decide +kernel
theorem dX11_adds_15 : decode cX11_adds 15 = .ok (.getfield 22, 3) := by decide +kernel
theorem dX11_adds_18 : decode cX11_adds 18 = .ok (.iload_n 3, 1) := by decide +kernel
theorem dX11_adds_19 : decode cX11_adds 19 = .ok (.iastore, 1) := by decide +kernel
theorem dX11_adds_20 : decode cX11_adds 20 = .ok (.aload_n 0, 1) := by decide +kernel
theorem dX11_adds_21 : decode cX11_adds 21 = .ok (.getfield 16, 3) := by decide +kernel
theorem dX11_adds_24 : decode cX11_adds 24 = .ok (.aload_n 0, 1) := by decide +kernel
theorem dX11_adds_25 : decode cX11_adds 25 = .ok (.getfield 22, 3) := by decide +kernel
theorem dX11_adds_28 : decode cX11_adds 28 = .ok (.iload_n 1, 1) := by decide +kernel
theorem dX11_adds_29 : decode cX11_adds 29 = .ok (.iastore, 1) := by decide +kernel
theorem dX11_adds_30 : decode cX11_adds 30 = .ok (.aload_n 0, 1) := by decide +kernel
theorem dX11_adds_31 : decode cX11_adds 31 = .ok (.dup, 1) := by decide +kernel
theorem dX11_adds_32 : decode cX11_adds 32 = .ok (.getfield 22, 3) := by decide +kernel
theorem dX11_adds_35 : decode cX11_adds 35 = .ok (.iconst 1, 1) := by decide +kernel
theorem dX11_adds_36 : decode cX11_adds 36 = .ok (.iadd, 1) := by decide +kernel
theorem dX11_adds_37 : decode cX11_adds 37 = .ok (.putfield 22, 3) := by decide +kernel
theorem dX11_adds_40 : decode cX11_adds 40 = .ok (.aload_n 0, 1) := by decide +kernel
theorem dX11_adds_41 : decode cX11_adds 41 = .ok (.getfield 22, 3) := by decide +kernel
theorem dX11_adds_44 : decode cX11_adds 44 = .ok (.iconst 1, 1) := by decide +kernel
theorem dX11_adds_45 : decode cX11_adds 45 = .ok (.isub, 1) := by decide +kernel
theorem dX11_adds_46 : decode cX11_adds 46 = .ok (.ireturn, 1) := by decide +kernel
theorem dX11_clear_0 : decode cX11_clear 0 = .ok (.aload_n 0, 1) := by decide +kernel
theorem dX11_clear_1 : decode cX11_clear 1 = .ok (.iconst 0, 1) := by decide +kernel
theorem dX11_clear_2 : decode cX11_clear 2 = .ok (.putfield 98, 3) := by decide +kernel
theorem dX11_clear_5 : decode cX11_clear 5 = .ok (.aload_n 0, 1) := by decide +kernel
theorem dX11_clear_6 : decode cX11_clear 6 = .ok (.iconst 1, 1) := by decide +kernel
theorem dX11_clear_7 : decode cX11_clear 7 = .ok (.putfield 22, 3) := by decide +kernel
theorem dX11_clear_10 : decode cX11_clear 10 = .ok (.aload_n 0, 1) := by decide +kernel
theorem dX11_clear_11 : decode cX11_clear 11 = .ok (.invokevirtual 95, 3) := by decide +kernel
theorem dX11_clear_14 : decode cX11_clear 14 = .ok (.aload_n 0, 1) := by decide +kernel
theorem dX11_clear_15 : decode cX11_clear 15 = .ok (.iconst 0, 1) := by decide +kernel
theorem dX11_clear_16 : decode cX11_clear 16 = .ok (.invokevirtual 131, 3) := by decide +kernel
theorem dX11_clear_19 : decode cX11_clear 19 = .ok (.return_, 1) := by decide +kernel
theorem dX11_told_0 : decode cX11_told 0 = .ok (.aload_n 0, 1) := by decide +kernel
theorem dX11_told_1 : decode cX11_told 1 = .ok (.iconst 0, 1) := by decide +kernel
theorem dX11_told_2 : decode cX11_told 2 = .ok (.putfield 98, 3) := by decide +kernel
theorem dX11_told_5 : decode cX11_told 5 = .ok (.aload_n 0, 1) := by decide +kernel
theorem dX11_told_6 : decode cX11_told 6 = .ok (.iload_n 1, 1) := by decide +kernel
theorem dX11_told_7 : decode cX11_told 7 = .ok (.invokevirtual 116, 3) := by decide +kernel
theorem dX11_told_10 : decode cX11_told 10 = .ok (.ifCond .ne 5, 3) := by decide +kernel
theorem dX11_told_13 : decode cX11_told 13 = .ok (.iconst (-1), 1) := by decide +kernel
theorem dX11_told_14 : decode cX11_told 14 = .ok (.ireturn, 1) := by decide +kernel
theorem dX11_told_15 : decode cX11_told 15 = .ok (.iload_n 2, 1) := by decide +kernel
theorem dX11_told_16 : decode cX11_told 16 = .ok (.tableswitch 82 0 4 #[36, 43, 50, 57, 63], 36) := by decide +kernel
theorem dX11_told_52 : decode cX11_told 52 = .ok (.aload_n 0, 1) := by decide +kernel
theorem dX11_told_53 : decode cX11_told 53 = .ok (.getfield 9, 3) := by decide +kernel
theorem dX11_told_56 : decode cX11_told 56 = .ok (.iload_n 1, 1) := by decide +kernel
theorem dX11_told_57 : decode cX11_told 57 = .ok (.iaload, 1) := by decide +kernel
theorem dX11_told_58 : decode cX11_told 58 = .ok (.ireturn, 1) := by decide +kernel
theorem dX11_told_59 : decode cX11_told 59 = .ok (.aload_n 0, 1) := by decide +kernel
theorem dX11_told_60 : decode cX11_told 60 = .ok (.getfield 13, 3) := by decide +kernel
theorem dX11_told_63 : decode cX11_told 63 = .ok (.iload_n 1, 1) := by decide +kernel
theorem dX11_told_64 : decode cX11_told 64 = .ok (.iaload, 1) := by decide +kernel
theorem dX11_told_65 : decode cX11_told 65 = .ok (.ireturn, 1) := by decide +kernel
theorem dX11_told_66 : decode cX11_told 66 = .ok (.aload_n 0, 1) := by decide +kernel
theorem dX11_told_67 : decode cX11_told 67 = .ok (.getfield 16, 3) := by decide +kernel
theorem dX11_told_70 : decode cX11_told 70 = .ok (.iload_n 1, 1) := by decide +kernel
theorem dX11_told_71 : decode cX11_told 71 = .ok (.iaload, 1) := by decide +kernel
theorem dX11_told_72 : decode cX11_told 72 = .ok (.ireturn, 1) := by decide +kernel
theorem dX11_told_73 : decode cX11_told 73 = .ok (.aload_n 0, 1) := by decide +kernel
theorem dX11_told_74 : decode cX11_told 74 = .ok (.iload_n 1, 1) := by decide +kernel
theorem dX11_told_75 : decode cX11_told 75 = .ok (.invokevirtual 135, 3) := by decide +kernel
theorem dX11_told_78 : decode cX11_told 78 = .ok (.ireturn, 1) := by decide +kernel
theorem dX11_told_79 : decode cX11_told 79 = .ok (.aload_n 0, 1) := by decide +kernel
theorem dX11_told_80 : decode cX11_told 80 = .ok (.getfield 9, 3) := by decide +kernel
theorem dX11_told_83 : decode cX11_told 83 = .ok (.iload_n 1, 1) := by decide +kernel
theorem dX11_told_84 : decode cX11_told 84 = .ok (.iaload, 1) := by decide +kernel
theorem dX11_told_85 : decode cX11_told 85 = .ok (.ifCond .ne 11, 3) := by decide +kernel
theorem dX11_told_88 : decode cX11_told 88 = .ok (.aload_n 0, 1) := by decide +kernel
theorem dX11_told_89 : decode cX11_told 89 = .ok (.iload_n 1, 1) := by decide +kernel
theorem dX11_told_90 : decode cX11_told 90 = .ok (.invokevirtual 139, 3) := by decide +kernel
theorem dX11_told_93 : decode cX11_told 93 = .ok (.goto 4, 3) := by decide +kernel
theorem dX11_told_96 : decode cX11_told 96 = .ok (.iconst 0, 1) := by decide +kernel
theorem dX11_told_97 : decode cX11_told 97 = .ok (.ireturn, 1) := by decide +kernel
theorem dX11_told_98 : decode cX11_told 98 = .ok (.iconst (-1), 1) := by decide +kernel
theorem dX11_told_99 : decode cX11_told 99 = .ok (.ireturn, 1) := by decide +kernel
theorem dX11_set_0 : decode cX11_set 0 = .ok (.aload_n 0, 1) := by decide +kernel
theorem dX11_set_1 : decode cX11_set 1 = .ok (.iconst 0, 1) := by decide +kernel
theorem dX11_set_2 : decode cX11_set 2 = .ok (.putfield 98, 3) := by decide +kernel
theorem dX11_set_5 : decode cX11_set 5 = .ok (.iconst 5, 1) := by decide +kernel
theorem dX11_set_6 : decode cX11_set 6 = .ok (.newarray .int, 2) := by decide +kernel
theorem dX11_set_8 : decode cX11_set 8 = .ok (.dup, 1) := by decide +kernel
theorem dX11_set_9 : decode cX11_set 9 = .ok (.iconst 0, 1) := by decide +kernel
theorem dX11_set_10 : decode cX11_set 10 = .ok (.iconst 1, 1) := by decide +kernel
theorem dX11_set_11 : decode cX11_set 11 = .ok (.iastore, 1) := by decide +kernel
theorem dX11_set_12 : decode cX11_set 12 = .ok (.dup, 1) := by decide +kernel
theorem dX11_set_13 : decode cX11_set 13 = .ok (.iconst 1, 1) := by decide +kernel
theorem dX11_set_14 : decode cX11_set 14 = .ok (.iconst 1, 1) := by decide +kernel
theorem dX11_set_15 : decode cX11_set 15 = .ok (.iastore, 1) := by decide +kernel
theorem dX11_set_16 : decode cX11_set 16 = .ok (.dup, 1) := by decide +kernel
theorem dX11_set_17 : decode cX11_set 17 = .ok (.iconst 2, 1) := by decide +kernel
theorem dX11_set_18 : decode cX11_set 18 = .ok (.iconst 0, 1) := by decide +kernel
theorem dX11_set_19 : decode cX11_set 19 = .ok (.iastore, 1) := by decide +kernel
theorem dX11_set_20 : decode cX11_set 20 = .ok (.dup, 1) := by decide +kernel
theorem dX11_set_21 : decode cX11_set 21 = .ok (.iconst 3, 1) := by decide +kernel
theorem dX11_set_22 : decode cX11_set 22 = .ok (.iconst 0, 1) := by decide +kernel
theorem dX11_set_23 : decode cX11_set 23 = .ok (.iastore, 1) := by decide +kernel
theorem dX11_set_24 : decode cX11_set 24 = .ok (.dup, 1) := by decide +kernel
theorem dX11_set_25 : decode cX11_set 25 = .ok (.iconst 4, 1) := by decide +kernel
theorem dX11_set_26 : decode cX11_set 26 = .ok (.iconst 0, 1) := by decide +kernel
theorem dX11_set_27 : decode cX11_set 27 = .ok (.iastore, 1) := by decide +kernel
theorem dX11_set_28 : decode cX11_set 28 = .ok (.astore_n 3, 1) := by decide +kernel
theorem dX11_set_29 : decode cX11_set 29 = .ok (.iconst 5, 1) := by decide +kernel
theorem dX11_set_30 : decode cX11_set 30 = .ok (.newarray .int, 2) := by decide +kernel
theorem dX11_set_32 : decode cX11_set 32 = .ok (.dup, 1) := by decide +kernel
theorem dX11_set_33 : decode cX11_set 33 = .ok (.iconst 0, 1) := by decide +kernel
theorem dX11_set_34 : decode cX11_set 34 = .ok (.bipush 50, 2) := by decide +kernel
theorem dX11_set_36 : decode cX11_set 36 = .ok (.iastore, 1) := by decide +kernel
theorem dX11_set_37 : decode cX11_set 37 = .ok (.dup, 1) := by decide +kernel
theorem dX11_set_38 : decode cX11_set 38 = .ok (.iconst 1, 1) := by decide +kernel
theorem dX11_set_39 : decode cX11_set 39 = .ok (.bipush 9, 2) := by decide +kernel
theorem dX11_set_41 : decode cX11_set 41 = .ok (.iastore, 1) := by decide +kernel
theorem dX11_set_42 : decode cX11_set 42 = .ok (.dup, 1) := by decide +kernel
theorem dX11_set_43 : decode cX11_set 43 = .ok (.iconst 2, 1) := by decide +kernel
theorem dX11_set_44 : decode cX11_set 44 = .ok (.bipush 20, 2) := by decide +kernel
theorem dX11_set_46 : decode cX11_set 46 = .ok (.iastore, 1) := by decide +kernel
theorem dX11_set_47 : decode cX11_set 47 = .ok (.dup, 1) := by decide +kernel
theorem dX11_set_48 : decode cX11_set 48 = .ok (.iconst 3, 1) := by decide +kernel
theorem dX11_set_49 : decode cX11_set 49 = .ok (.bipush 20, 2) := by decide +kernel
theorem dX11_set_51 : decode cX11_set 51 = .ok (.iastore, 1) := by decide +kernel
theorem dX11_set_52 : decode cX11_set 52 = .ok (.dup, 1) := by decide +kernel
theorem dX11_set_53 : decode cX11_set 53 = .ok (.iconst 4, 1) := by decide +kernel
theorem dX11_set_54 : decode cX11_set 54 = .ok (.bipush 50, 2) := by decide +kernel
theorem dX11_set_56 : decode cX11_set 56 = .ok (.iastore, 1) := by decide +kernel
theorem dX11_set_57 : decode cX11_set 57 = .ok (.astore 4, 2) := by decide +kernel
theorem dX11_set_59 : decode cX11_set 59 = .ok (.iload_n 1, 1) := by decide +kernel
theorem dX11_set_60 : decode cX11_set 60 = .ok (.iconst 0, 1) := by decide +kernel
theorem dX11_set_61 : decode cX11_set 61 = .ok (.iconst 4, 1) := by decide +kernel
theorem dX11_set_62 : decode cX11_set 62 = .ok (.invokestatic 120, 3) := by decide +kernel
theorem dX11_set_65 : decode cX11_set 65 = .ok (.ifCond .eq 17, 3) := by decide +kernel
theorem dX11_set_68 : decode cX11_set 68 = .ok (.iload_n 2, 1) := by decide +kernel
theorem dX11_set_69 : decode cX11_set 69 = .ok (.aload_n 3, 1) := by decide +kernel
theorem dX11_set_70 : decode cX11_set 70 = .ok (.iload_n 1, 1) := by decide +kernel
theorem dX11_set_71 : decode cX11_set 71 = .ok (.iaload, 1) := by decide +kernel
theorem dX11_set_72 : decode cX11_set 72 = .ok (.aload 4, 2) := by decide +kernel
theorem dX11_set_74 : decode cX11_set 74 = .ok (.iload_n 1, 1) := by decide +kernel
theorem dX11_set_75 : decode cX11_set 75 = .ok (.iaload, 1) := by decide +kernel
theorem dX11_set_76 : decode cX11_set 76 = .ok (.invokestatic 120, 3) := by decide +kernel
theorem dX11_set_79 : decode cX11_set 79 = .ok (.ifCond .ne 5, 3) := by decide +kernel
theorem dX11_set_82 : decode cX11_set 82 = .ok (.iconst 0, 1) := by decide +kernel
theorem dX11_set_83 : decode cX11_set 83 = .ok (.ireturn, 1) := by decide +kernel
theorem dX11_set_84 : decode cX11_set 84 = .ok (.aload_n 0, 1) := by decide +kernel
theorem dX11_set_85 : decode cX11_set 85 = .ok (.getfield 19, 3) := by decide +kernel
theorem dX11_set_88 : decode cX11_set 88 = .ok (.iload_n 1, 1) := by decide +kernel
theorem dX11_set_89 : decode cX11_set 89 = .ok (.iload_n 2, 1) := by decide +kernel
theorem dX11_set_90 : decode cX11_set 90 = .ok (.iastore, 1) := by decide +kernel
theorem dX11_set_91 : decode cX11_set 91 = .ok (.iconst 1, 1) := by decide +kernel
theorem dX11_set_92 : decode cX11_set 92 = .ok (.ireturn, 1) := by decide +kernel
theorem dX11_tick_0 : decode cX11_tick 0 = .ok (.aload_n 0, 1) := by decide +kernel
theorem dX11_tick_1 : decode cX11_tick 1 = .ok (.iconst 0, 1) := by decide +kernel
theorem dX11_tick_2 : decode cX11_tick 2 = .ok (.putfield 98, 3) := by decide +kernel
theorem dX11_tick_5 : decode cX11_tick 5 = .ok (.iload_n 1, 1) := by decide +kernel
theorem dX11_tick_6 : decode cX11_tick 6 = .ok (.iconst 0, 1) := by decide +kernel
theorem dX11_tick_7 : decode cX11_tick 7 = .ok (.sipush 1000, 3) := by decide +kernel
theorem dX11_tick_10 : decode cX11_tick 10 = .ok (.invokestatic 120, 3) := by decide +kernel
theorem dX11_tick_13 : decode cX11_tick 13 = .ok (.ifCond .eq 14, 3) := by decide +kernel
theorem dX11_tick_16 : decode cX11_tick 16 = .ok (.aload_n 0, 1) := by decide +kernel
theorem dX11_tick_17 : decode cX11_tick 17 = .ok (.getfield 107, 3) := by decide +kernel
theorem dX11_tick_20 : decode cX11_tick 20 = .ok (.iload_n 1, 1) := by decide +kernel
theorem dX11_tick_21 : decode cX11_tick 21 = .ok (.iadd, 1) := by decide +kernel
theorem dX11_tick_22 : decode cX11_tick 22 = .ok (.ldc 142, 2) := by decide +kernel
theorem dX11_tick_24 : decode cX11_tick 24 = .ok (.if_icmp .le 6, 3) := by decide +kernel
theorem dX11_tick_27 : decode cX11_tick 27 = .ok (.bipush (-2), 2) := by decide +kernel
theorem dX11_tick_29 : decode cX11_tick 29 = .ok (.ireturn, 1) := by decide +kernel
theorem dX11_tick_30 : decode cX11_tick 30 = .ok (.iconst 0, 1) := by decide +kernel
theorem dX11_tick_31 : decode cX11_tick 31 = .ok (.istore_n 2, 1) := by decide +kernel
theorem dX11_tick_32 : decode cX11_tick 32 = .ok (.iload_n 2, 1) := by decide +kernel
theorem dX11_tick_33 : decode cX11_tick 33 = .ok (.iload_n 1, 1) := by decide +kernel
theorem dX11_tick_34 : decode cX11_tick 34 = .ok (.if_icmp .ge 13, 3) := by decide +kernel
theorem dX11_tick_37 : decode cX11_tick 37 = .ok (.aload_n 0, 1) := by decide +kernel
theorem dX11_tick_38 : decode cX11_tick 38 = .ok (.invokevirtual 143, 3) := by decide +kernel
theorem dX11_tick_41 : decode cX11_tick 41 = .ok (.iinc 2 1, 3) := by decide +kernel
theorem dX11_tick_44 : decode cX11_tick 44 = .ok (.goto (-12), 3) := by decide +kernel
theorem dX11_tick_47 : decode cX11_tick 47 = .ok (.aload_n 0, 1) := by decide +kernel
theorem dX11_tick_48 : decode cX11_tick 48 = .ok (.aload_n 0, 1) := by decide +kernel
theorem dX11_tick_49 : decode cX11_tick 49 = .ok (.getfield 101, 3) := by decide +kernel
theorem dX11_tick_52 : decode cX11_tick 52 = .ok (.aload_n 0, 1) := by decide +kernel
theorem dX11_tick_53 : decode cX11_tick 53 = .ok (.getfield 104, 3) := by decide +kernel
theorem dX11_tick_56 : decode cX11_tick 56 = .ok (.invokevirtual 146, 3) := by decide +kernel
theorem dX11_tick_59 : decode cX11_tick 59 = .ok (.ireturn, 1) := by decide +kernel
theorem dX11_ticks_0 : decode cX11_ticks 0 = .ok (.aload_n 0, 1) := by decide +kernel
theorem dX11_ticks_1 : decode cX11_ticks 1 = .ok (.dup, 1) := by decide +kernel
theorem dX11_ticks_2 : decode cX11_ticks 2 = .ok (.getfield 107, 3) := by decide +kernel
theorem dX11_ticks_5 : decode cX11_ticks 5 = .ok (.iconst 1, 1) := by decide +kernel
theorem dX11_ticks_6 : decode cX11_ticks 6 = .ok (.iadd, 1) := by decide +kernel
theorem dX11_ticks_7 : decode cX11_ticks 7 = .ok (.putfield 107, 3) := by decide +kernel
theorem dX11_ticks_10 : decode cX11_ticks 10 = .ok (.aload_n 0, 1) := by decide +kernel
theorem dX11_ticks_11 : decode cX11_ticks 11 = .ok (.aload_n 0, 1) := by decide +kernel
theorem dX11_ticks_12 : decode cX11_ticks 12 = .ok (.getfield 101, 3) := by decide +kernel
theorem dX11_ticks_15 : decode cX11_ticks 15 = .ok (.invokevirtual 139, 3) := by decide +kernel
theorem dX11_ticks_18 : decode cX11_ticks 18 = .ok (.istore_n 1, 1) := by decide +kernel
theorem dX11_ticks_19 : decode cX11_ticks 19 = .ok (.iload_n 1, 1) := by decide +kernel
theorem dX11_ticks_20 : decode cX11_ticks 20 = .ok (.ifCond .eq 21, 3) := by decide +kernel
theorem dX11_ticks_23 : decode cX11_ticks 23 = .ok (.aload_n 0, 1) := by decide +kernel
theorem dX11_ticks_24 : decode cX11_ticks 24 = .ok (.getfield 107, 3) := by decide +kernel
theorem dX11_ticks_27 : decode cX11_ticks 27 = .ok (.aload_n 0, 1) := by decide +kernel
theorem dX11_ticks_28 : decode cX11_ticks 28 = .ok (.getfield 110, 3) := by decide +kernel
theorem dX11_ticks_31 : decode cX11_ticks 31 = .ok (.isub, 1) := by decide +kernel
theorem dX11_ticks_32 : decode cX11_ticks 32 = .ok (.aload_n 0, 1) := by decide +kernel
theorem dX11_ticks_33 : decode cX11_ticks 33 = .ok (.getfield 19, 3) := by decide +kernel
theorem dX11_ticks_36 : decode cX11_ticks 36 = .ok (.iconst 0, 1) := by decide +kernel
theorem dX11_ticks_37 : decode cX11_ticks 37 = .ok (.iaload, 1) := by decide +kernel
theorem dX11_ticks_38 : decode cX11_ticks 38 = .ok (.if_icmp .ge 4, 3) := by decide +kernel
theorem dX11_ticks_41 : decode cX11_ticks 41 = .ok (.return_, 1) := by decide +kernel
theorem dX11_ticks_42 : decode cX11_ticks 42 = .ok (.aload_n 0, 1) := by decide +kernel
theorem dX11_ticks_43 : decode cX11_ticks 43 = .ok (.aload_n 0, 1) := by decide +kernel
theorem dX11_ticks_44 : decode cX11_ticks 44 = .ok (.aload_n 0, 1) := by decide +kernel
theorem dX11_ticks_45 : decode cX11_ticks 45 = .ok (.getfield 101, 3) := by decide +kernel
theorem dX11_ticks_48 : decode cX11_ticks 48 = .ok (.aload_n 0, 1) := by decide +kernel
theorem dX11_ticks_49 : decode cX11_ticks 49 = .ok (.getfield 104, 3) := by decide +kernel
theorem dX11_ticks_52 : decode cX11_ticks 52 = .ok (.invokevirtual 146, 3) := by decide +kernel
theorem dX11_ticks_55 : decode cX11_ticks 55 = .ok (.putfield 39, 3) := by decide +kernel
theorem dX11_ticks_58 : decode cX11_ticks 58 = .ok (.aload_n 0, 1) := by decide +kernel
theorem dX11_ticks_59 : decode cX11_ticks 59 = .ok (.aload_n 0, 1) := by decide +kernel
theorem dX11_ticks_60 : decode cX11_ticks 60 = .ok (.getfield 107, 3) := by decide +kernel
theorem dX11_ticks_63 : decode cX11_ticks 63 = .ok (.putfield 110, 3) := by decide +kernel
theorem dX11_ticks_66 : decode cX11_ticks 66 = .ok (.aload_n 0, 1) := by decide +kernel
theorem dX11_ticks_67 : decode cX11_ticks 67 = .ok (.dup, 1) := by decide +kernel
theorem dX11_ticks_68 : decode cX11_ticks 68 = .ok (.getfield 104, 3) := by decide +kernel
theorem dX11_ticks_71 : decode cX11_ticks 71 = .ok (.iconst 1, 1) := by decide +kernel
theorem dX11_ticks_72 : decode cX11_ticks 72 = .ok (.iadd, 1) := by decide +kernel
theorem dX11_ticks_73 : decode cX11_ticks 73 = .ok (.putfield 104, 3) := by decide +kernel
theorem dX11_ticks_76 : decode cX11_ticks 76 = .ok (.aload_n 0, 1) := by decide +kernel
theorem dX11_ticks_77 : decode cX11_ticks 77 = .ok (.getfield 104, 3) := by decide +kernel
theorem dX11_ticks_80 : decode cX11_ticks 80 = .ok (.iload_n 1, 1) := by decide +kernel
theorem dX11_ticks_81 : decode cX11_ticks 81 = .ok (.if_icmp .ge 4, 3) := by decide +kernel
theorem dX11_ticks_84 : decode cX11_ticks 84 = .ok (.return_, 1) := by decide +kernel
theorem dX11_ticks_85 : decode cX11_ticks 85 = .ok (.aload_n 0, 1) := by decide +kernel
theorem dX11_ticks_86 : decode cX11_ticks 86 = .ok (.iconst 0, 1) := by decide +kernel
theorem dX11_ticks_87 : decode cX11_ticks 87 = .ok (.putfield 104, 3) := by decide +kernel
theorem dX11_ticks_90 : decode cX11_ticks 90 = .ok (.aload_n 0, 1) := by decide +kernel
theorem dX11_ticks_91 : decode cX11_ticks 91 = .ok (.dup, 1) := by decide +kernel
theorem dX11_ticks_92 : decode cX11_ticks 92 = .ok (.getfield 113, 3) := by decide +kernel
theorem dX11_ticks_95 : decode cX11_ticks 95 = .ok (.iconst 1, 1) := by decide +kernel
theorem dX11_ticks_96 : decode cX11_ticks 96 = .ok (.iadd, 1) := by decide +kernel
theorem dX11_ticks_97 : decode cX11_ticks 97 = .ok (.putfield 113, 3) := by decide +kernel
theorem dX11_ticks_100 : decode cX11_ticks 100 = .ok (.aload_n 0, 1) := by decide +kernel
theorem dX11_ticks_101 : decode cX11_ticks 101 = .ok (.getfield 101, 3) := by decide +kernel
theorem dX11_ticks_104 : decode cX11_ticks 104 = .ok (.ifCond .eq 21, 3) := by decide +kernel
theorem dX11_ticks_107 : decode cX11_ticks 107 = .ok (.aload_n 0, 1) := by decide +kernel
theorem dX11_ticks_108 : decode cX11_ticks 108 = .ok (.getfield 113, 3) := by decide +kernel
theorem dX11_ticks_111 : decode cX11_ticks 111 = .ok (.aload_n 0, 1) := by decide +kernel
theorem dX11_ticks_112 : decode cX11_ticks 112 = .ok (.getfield 19, 3) := by decide +kernel
theorem dX11_ticks_115 : decode cX11_ticks 115 = .ok (.iconst 1, 1) := by decide +kernel
theorem dX11_ticks_116 : decode cX11_ticks 116 = .ok (.iaload, 1) := by decide +kernel
theorem dX11_ticks_117 : decode cX11_ticks 117 = .ok (.if_icmp .lt 8, 3) := by decide +kernel
theorem dX11_ticks_120 : decode cX11_ticks 120 = .ok (.aload_n 0, 1) := by decide +kernel
theorem dX11_ticks_121 : decode cX11_ticks 121 = .ok (.iconst 0, 1) := by decide +kernel
theorem dX11_ticks_122 : decode cX11_ticks 122 = .ok (.invokevirtual 131, 3) := by decide +kernel
theorem dX11_ticks_125 : decode cX11_ticks 125 = .ok (.return_, 1) := by decide +kernel
theorem dX11_press_0 : decode cX11_press 0 = .ok (.aload_n 0, 1) := by decide +kernel
theorem dX11_press_1 : decode cX11_press 1 = .ok (.iconst 0, 1) := by decide +kernel
theorem dX11_press_2 : decode cX11_press 2 = .ok (.putfield 98, 3) := by decide +kernel
theorem dX11_press_5 : decode cX11_press 5 = .ok (.aload_n 0, 1) := by decide +kernel
theorem dX11_press_6 : decode cX11_press 6 = .ok (.aload_n 0, 1) := by decide +kernel
theorem dX11_press_7 : decode cX11_press 7 = .ok (.getfield 101, 3) := by decide +kernel
theorem dX11_press_10 : decode cX11_press 10 = .ok (.aload_n 0, 1) := by decide +kernel
theorem dX11_press_11 : decode cX11_press 11 = .ok (.getfield 104, 3) := by decide +kernel
theorem dX11_press_14 : decode cX11_press 14 = .ok (.invokevirtual 146, 3) := by decide +kernel
theorem dX11_press_17 : decode cX11_press 17 = .ok (.istore_n 1, 1) := by decide +kernel
theorem dX11_press_18 : decode cX11_press 18 = .ok (.iload_n 1, 1) := by decide +kernel
theorem dX11_press_19 : decode cX11_press 19 = .ok (.iconst (-1), 1) := by decide +kernel
theorem dX11_press_20 : decode cX11_press 20 = .ok (.if_icmp .eq 29, 3) := by decide +kernel
theorem dX11_press_23 : decode cX11_press 23 = .ok (.aload_n 0, 1) := by decide +kernel
theorem dX11_press_24 : decode cX11_press 24 = .ok (.getfield 42, 3) := by decide +kernel
theorem dX11_press_27 : decode cX11_press 27 = .ok (.iconst (-1), 1) := by decide +kernel
theorem dX11_press_28 : decode cX11_press 28 = .ok (.if_icmp .eq 23, 3) := by decide +kernel
theorem dX11_press_31 : decode cX11_press 31 = .ok (.aload_n 0, 1) := by decide +kernel
theorem dX11_press_32 : decode cX11_press 32 = .ok (.getfield 107, 3) := by decide +kernel
theorem dX11_press_35 : decode cX11_press 35 = .ok (.aload_n 0, 1) := by decide +kernel
theorem dX11_press_36 : decode cX11_press 36 = .ok (.getfield 42, 3) := by decide +kernel
theorem dX11_press_39 : decode cX11_press 39 = .ok (.isub, 1) := by decide +kernel
theorem dX11_press_40 : decode cX11_press 40 = .ok (.aload_n 0, 1) := by decide +kernel
theorem dX11_press_41 : decode cX11_press 41 = .ok (.getfield 19, 3) := by decide +kernel
theorem dX11_press_44 : decode cX11_press 44 = .ok (.iconst 3, 1) := by decide +kernel
theorem dX11_press_45 : decode cX11_press 45 = .ok (.iaload, 1) := by decide +kernel
theorem dX11_press_46 : decode cX11_press 46 = .ok (.if_icmp .ge 5, 3) := by decide +kernel
theorem dX11_press_49 : decode cX11_press 49 = .ok (.iconst (-1), 1) := by decide +kernel
theorem dX11_press_50 : decode cX11_press 50 = .ok (.ireturn, 1) := by decide +kernel
theorem dX11_press_51 : decode cX11_press 51 = .ok (.aload_n 0, 1) := by decide +kernel
theorem dX11_press_52 : decode cX11_press 52 = .ok (.aload_n 0, 1) := by decide +kernel
theorem dX11_press_53 : decode cX11_press 53 = .ok (.getfield 107, 3) := by decide +kernel
theorem dX11_press_56 : decode cX11_press 56 = .ok (.putfield 42, 3) := by decide +kernel
theorem dX11_press_59 : decode cX11_press 59 = .ok (.aload_n 0, 1) := by decide +kernel
theorem dX11_press_60 : decode cX11_press 60 = .ok (.dup, 1) := by decide +kernel
theorem dX11_press_61 : decode cX11_press 61 = .ok (.getfield 150, 3) := by decide +kernel
theorem dX11_press_64 : decode cX11_press 64 = .ok (.iconst 1, 1) := by decide +kernel
theorem dX11_press_65 : decode cX11_press 65 = .ok (.iadd, 1) := by decide +kernel
theorem dX11_press_66 : decode cX11_press 66 = .ok (.putfield 150, 3) := by decide +kernel
theorem dX11_press_69 : decode cX11_press 69 = .ok (.aload_n 0, 1) := by decide +kernel
theorem dX11_press_70 : decode cX11_press 70 = .ok (.getfield 107, 3) := by decide +kernel
theorem dX11_press_73 : decode cX11_press 73 = .ok (.aload_n 0, 1) := by decide +kernel
theorem dX11_press_74 : decode cX11_press 74 = .ok (.getfield 110, 3) := by decide +kernel
theorem dX11_press_77 : decode cX11_press 77 = .ok (.isub, 1) := by decide +kernel
theorem dX11_press_78 : decode cX11_press 78 = .ok (.aload_n 0, 1) := by decide +kernel
theorem dX11_press_79 : decode cX11_press 79 = .ok (.getfield 19, 3) := by decide +kernel
theorem dX11_press_82 : decode cX11_press 82 = .ok (.iconst 2, 1) := by decide +kernel
theorem dX11_press_83 : decode cX11_press 83 = .ok (.iaload, 1) := by decide +kernel
theorem dX11_press_84 : decode cX11_press 84 = .ok (.if_icmp .ge 18, 3) := by decide +kernel
theorem dX11_press_87 : decode cX11_press 87 = .ok (.aload_n 0, 1) := by decide +kernel
theorem dX11_press_88 : decode cX11_press 88 = .ok (.getfield 39, 3) := by decide +kernel
theorem dX11_press_91 : decode cX11_press 91 = .ok (.iconst (-1), 1) := by decide +kernel
theorem dX11_press_92 : decode cX11_press 92 = .ok (.if_icmp .eq 10, 3) := by decide +kernel
theorem dX11_press_95 : decode cX11_press 95 = .ok (.aload_n 0, 1) := by decide +kernel
theorem dX11_press_96 : decode cX11_press 96 = .ok (.getfield 39, 3) := by decide +kernel
theorem dX11_press_99 : decode cX11_press 99 = .ok (.goto 4, 3) := by decide +kernel
theorem dX11_press_102 : decode cX11_press 102 = .ok (.iload_n 1, 1) := by decide +kernel
theorem dX11_press_103 : decode cX11_press 103 = .ok (.istore_n 2, 1) := by decide +kernel
theorem dX11_press_104 : decode cX11_press 104 = .ok (.aload_n 0, 1) := by decide +kernel
theorem dX11_press_105 : decode cX11_press 105 = .ok (.getfield 9, 3) := by decide +kernel
theorem dX11_press_108 : decode cX11_press 108 = .ok (.iload_n 2, 1) := by decide +kernel
theorem dX11_press_109 : decode cX11_press 109 = .ok (.iaload, 1) := by decide +kernel
theorem dX11_press_110 : decode cX11_press 110 = .ok (.ifCond .ne 11, 3) := by decide +kernel
theorem dX11_press_113 : decode cX11_press 113 = .ok (.aload_n 0, 1) := by decide +kernel
theorem dX11_press_114 : decode cX11_press 114 = .ok (.iload_n 2, 1) := by decide +kernel
theorem dX11_press_115 : decode cX11_press 115 = .ok (.invokevirtual 131, 3) := by decide +kernel
theorem dX11_press_118 : decode cX11_press 118 = .ok (.goto 13, 3) := by decide +kernel
theorem dX11_press_121 : decode cX11_press 121 = .ok (.aload_n 0, 1) := by decide +kernel
theorem dX11_press_122 : decode cX11_press 122 = .ok (.iload_n 2, 1) := by decide +kernel
theorem dX11_press_123 : decode cX11_press 123 = .ok (.invokevirtual 153, 3) := by decide +kernel
theorem dX11_press_126 : decode cX11_press 126 = .ok (.aload_n 0, 1) := by decide +kernel
theorem dX11_press_127 : decode cX11_press 127 = .ok (.iconst 0, 1) := by decide +kernel
theorem dX11_press_128 : decode cX11_press 128 = .ok (.invokevirtual 131, 3) := by decide +kernel
theorem dX11_press_131 : decode cX11_press 131 = .ok (.iload_n 2, 1) := by decide +kernel
theorem dX11_press_132 : decode cX11_press 132 = .ok (.ireturn, 1) := by decide +kernel
theorem dX11_state_0 : decode cX11_state 0 = .ok (.aload_n 0, 1) := by decide +kernel
theorem dX11_state_1 : decode cX11_state 1 = .ok (.iconst 0, 1) := by decide +kernel
theorem dX11_state_2 : decode cX11_state 2 = .ok (.putfield 98, 3) := by decide +kernel
theorem dX11_state_5 : decode cX11_state 5 = .ok (.iload_n 1, 1) := by decide +kernel
theorem dX11_state_6 : decode cX11_state 6 = .ok (.tableswitch 94 0 7 #[46, 51, 56, 69, 74, 79, 84, 89], 46) := by decide +kernel
theorem dX11_state_52 : decode cX11_state 52 = .ok (.aload_n 0, 1) := by decide +kernel
theorem dX11_state_53 : decode cX11_state 53 = .ok (.getfield 107, 3) := by decide +kernel
theorem dX11_state_56 : decode cX11_state 56 = .ok (.ireturn, 1) := by decide +kernel
theorem dX11_state_57 : decode cX11_state 57 = .ok (.aload_n 0, 1) := by decide +kernel
theorem dX11_state_58 : decode cX11_state 58 = .ok (.getfield 101, 3) := by decide +kernel
theorem dX11_state_61 : decode cX11_state 61 = .ok (.ireturn, 1) := by decide +kernel
theorem dX11_state_62 : decode cX11_state 62 = .ok (.aload_n 0, 1) := by decide +kernel
theorem dX11_state_63 : decode cX11_state 63 = .ok (.aload_n 0, 1) := by decide +kernel
theorem dX11_state_64 : decode cX11_state 64 = .ok (.getfield 101, 3) := by decide +kernel
theorem dX11_state_67 : decode cX11_state 67 = .ok (.aload_n 0, 1) := by decide +kernel
theorem dX11_state_68 : decode cX11_state 68 = .ok (.getfield 104, 3) := by decide +kernel
theorem dX11_state_71 : decode cX11_state 71 = .ok (.invokevirtual 146, 3) := by decide +kernel
theorem dX11_state_74 : decode cX11_state 74 = .ok (.ireturn, 1) := by decide +kernel
theorem dX11_state_75 : decode cX11_state 75 = .ok (.aload_n 0, 1) := by decide +kernel
theorem dX11_state_76 : decode cX11_state 76 = .ok (.getfield 39, 3) := by decide +kernel
theorem dX11_state_79 : decode cX11_state 79 = .ok (.ireturn, 1) := by decide +kernel
theorem dX11_state_80 : decode cX11_state 80 = .ok (.aload_n 0, 1) := by decide +kernel
theorem dX11_state_81 : decode cX11_state 81 = .ok (.getfield 110, 3) := by decide +kernel
theorem dX11_state_84 : decode cX11_state 84 = .ok (.ireturn, 1) := by decide +kernel
theorem dX11_state_85 : decode cX11_state 85 = .ok (.aload_n 0, 1) := by decide +kernel
theorem dX11_state_86 : decode cX11_state 86 = .ok (.getfield 113, 3) := by decide +kernel
theorem dX11_state_89 : decode cX11_state 89 = .ok (.ireturn, 1) := by decide +kernel
theorem dX11_state_90 : decode cX11_state 90 = .ok (.aload_n 0, 1) := by decide +kernel
theorem dX11_state_91 : decode cX11_state 91 = .ok (.getfield 150, 3) := by decide +kernel
theorem dX11_state_94 : decode cX11_state 94 = .ok (.ireturn, 1) := by decide +kernel
theorem dX11_state_95 : decode cX11_state 95 = .ok (.aload_n 0, 1) := by decide +kernel
theorem dX11_state_96 : decode cX11_state 96 = .ok (.getfield 156, 3) := by decide +kernel
theorem dX11_state_99 : decode cX11_state 99 = .ok (.ireturn, 1) := by decide +kernel
theorem dX11_state_100 : decode cX11_state 100 = .ok (.iconst (-1), 1) := by decide +kernel
theorem dX11_state_101 : decode cX11_state 101 = .ok (.ireturn, 1) := by decide +kernel
theorem dX11_keep_0 : decode cX11_keep 0 = .ok (.aload_n 0, 1) := by decide +kernel
theorem dX11_keep_1 : decode cX11_keep 1 = .ok (.getfield 156, 3) := by decide +kernel
theorem dX11_keep_4 : decode cX11_keep 4 = .ok (.bipush 100, 2) := by decide +kernel
theorem dX11_keep_6 : decode cX11_keep 6 = .ok (.if_icmp .ne 104, 3) := by decide +kernel
theorem dX11_keep_9 : decode cX11_keep 9 = .ok (.sipush 200, 3) := by decide +kernel
theorem dX11_keep_12 : decode cX11_keep 12 = .ok (.istore_n 1, 1) := by decide +kernel
theorem dX11_keep_13 : decode cX11_keep 13 = .ok (.iload_n 1, 1) := by decide +kernel
theorem dX11_keep_14 : decode cX11_keep 14 = .ok (.sipush 20000, 3) := by decide +kernel
theorem dX11_keep_17 : decode cX11_keep 17 = .ok (.if_icmp .ge 41, 3) := by decide +kernel
theorem dX11_keep_20 : decode cX11_keep 20 = .ok (.aload_n 0, 1) := by decide +kernel
theorem dX11_keep_21 : decode cX11_keep 21 = .ok (.getfield 52, 3) := by decide +kernel
theorem dX11_keep_24 : decode cX11_keep 24 = .ok (.iload_n 1, 1) := by decide +kernel
theorem dX11_keep_25 : decode cX11_keep 25 = .ok (.sipush 200, 3) := by decide +kernel
theorem dX11_keep_28 : decode cX11_keep 28 = .ok (.isub, 1) := by decide +kernel
theorem dX11_keep_29 : decode cX11_keep 29 = .ok (.aload_n 0, 1) := by decide +kernel
theorem dX11_keep_30 : decode cX11_keep 30 = .ok (.getfield 52, 3) := by decide +kernel
theorem dX11_keep_33 : decode cX11_keep 33 = .ok (.iload_n 1, 1) := by decide +kernel
theorem dX11_keep_34 : decode cX11_keep 34 = .ok (.baload, 1) := by decide +kernel
theorem dX11_keep_35 : decode cX11_keep 35 = .ok (.bastore, 1) := by decide +kernel
theorem dX11_keep_36 : decode cX11_keep 36 = .ok (.aload_n 0, 1) := by decide +kernel
theorem dX11_keep_37 : decode cX11_keep 37 = .ok (.getfield 55, 3) := by decide +kernel
theorem dX11_keep_40 : decode cX11_keep 40 = .ok (.iload_n 1, 1) := by decide +kernel
theorem dX11_keep_41 : decode cX11_keep 41 = .ok (.sipush 200, 3) := by decide +kernel
theorem dX11_keep_44 : decode cX11_keep 44 = .ok (.isub, 1) := by decide +kernel
theorem dX11_keep_45 : decode cX11_keep 45 = .ok (.aload_n 0, 1) := by decide +kernel
theorem dX11_keep_46 : decode cX11_keep 46 = .ok (.getfield 55, 3) := by decide +kernel
theorem dX11_keep_49 : decode cX11_keep 49 = .ok (.iload_n 1, 1) := by decide +kernel
theorem dX11_keep_50 : decode cX11_keep 50 = .ok (.baload, 1) := by decide +kernel
theorem dX11_keep_51 : decode cX11_keep 51 = .ok (.bastore, 1) := by decide +kernel
theorem dX11_keep_52 : decode cX11_keep 52 = .ok (.iinc 1 1, 3) := by decide +kernel
theorem dX11_keep_55 : decode cX11_keep 55 = .ok (.goto (-42), 3) := by decide +kernel
theorem dX11_keep_58 : decode cX11_keep 58 = .ok (.iconst 1, 1) := by decide +kernel
theorem dX11_keep_59 : decode cX11_keep 59 = .ok (.istore_n 1, 1) := by decide +kernel
theorem dX11_keep_60 : decode cX11_keep 60 = .ok (.iload_n 1, 1) := by decide +kernel
theorem dX11_keep_61 : decode cX11_keep 61 = .ok (.bipush 100, 2) := by decide +kernel
theorem dX11_keep_63 : decode cX11_keep 63 = .ok (.if_icmp .ge 37, 3) := by decide +kernel
theorem dX11_keep_66 : decode cX11_keep 66 = .ok (.aload_n 0, 1) := by decide +kernel
theorem dX11_keep_67 : decode cX11_keep 67 = .ok (.getfield 58, 3) := by decide +kernel
theorem dX11_keep_70 : decode cX11_keep 70 = .ok (.iload_n 1, 1) := by decide +kernel
theorem dX11_keep_71 : decode cX11_keep 71 = .ok (.iconst 1, 1) := by decide +kernel
theorem dX11_keep_72 : decode cX11_keep 72 = .ok (.isub, 1) := by decide +kernel
theorem dX11_keep_73 : decode cX11_keep 73 = .ok (.aload_n 0, 1) := by decide +kernel
theorem dX11_keep_74 : decode cX11_keep 74 = .ok (.getfield 58, 3) := by decide +kernel
theorem dX11_keep_77 : decode cX11_keep 77 = .ok (.iload_n 1, 1) := by decide +kernel
theorem dX11_keep_78 : decode cX11_keep 78 = .ok (.iaload, 1) := by decide +kernel
theorem dX11_keep_79 : decode cX11_keep 79 = .ok (.iastore, 1) := by decide +kernel
theorem dX11_keep_80 : decode cX11_keep 80 = .ok (.aload_n 0, 1) := by decide +kernel
theorem dX11_keep_81 : decode cX11_keep 81 = .ok (.getfield 61, 3) := by decide +kernel
theorem dX11_keep_84 : decode cX11_keep 84 = .ok (.iload_n 1, 1) := by decide +kernel
theorem dX11_keep_85 : decode cX11_keep 85 = .ok (.iconst 1, 1) := by decide +kernel
theorem dX11_keep_86 : decode cX11_keep 86 = .ok (.isub, 1) := by decide +kernel
theorem dX11_keep_87 : decode cX11_keep 87 = .ok (.aload_n 0, 1) := by decide +kernel
theorem dX11_keep_88 : decode cX11_keep 88 = .ok (.getfield 61, 3) := by decide +kernel
theorem dX11_keep_91 : decode cX11_keep 91 = .ok (.iload_n 1, 1) := by decide +kernel
theorem dX11_keep_92 : decode cX11_keep 92 = .ok (.iaload, 1) := by decide +kernel
theorem dX11_keep_93 : decode cX11_keep 93 = .ok (.iastore, 1) := by decide +kernel
theorem dX11_keep_94 : decode cX11_keep 94 = .ok (.iinc 1 1, 3) := by decide +kernel
theorem dX11_keep_97 : decode cX11_keep 97 = .ok (.goto (-37), 3) := by decide +kernel
theorem dX11_keep_100 : decode cX11_keep 100 = .ok (.aload_n 0, 1) := by decide +kernel
theorem dX11_keep_101 : decode cX11_keep 101 = .ok (.dup, 1) := by decide +kernel
theorem dX11_keep_102 : decode cX11_keep 102 = .ok (.getfield 156, 3) := by decide +kernel
theorem dX11_keep_105 : decode cX11_keep 105 = .ok (.iconst 1, 1) := by decide +kernel
theorem dX11_keep_106 : decode cX11_keep 106 = .ok (.isub, 1) := by decide +kernel
theorem dX11_keep_107 : decode cX11_keep 107 = .ok (.putfield 156, 3) := by decide +kernel
theorem dX11_keep_110 : decode cX11_keep 110 = .ok (.iconst 0, 1) := by decide +kernel
theorem dX11_keep_111 : decode cX11_keep 111 = .ok (.istore_n 1, 1) := by decide +kernel
theorem dX11_keep_112 : decode cX11_keep 112 = .ok (.iload_n 1, 1) := by decide +kernel
theorem dX11_keep_113 : decode cX11_keep 113 = .ok (.sipush 200, 3) := by decide +kernel
theorem dX11_keep_116 : decode cX11_keep 116 = .ok (.if_icmp .ge 51, 3) := by decide +kernel
theorem dX11_keep_119 : decode cX11_keep 119 = .ok (.aload_n 0, 1) := by decide +kernel
theorem dX11_keep_120 : decode cX11_keep 120 = .ok (.getfield 52, 3) := by decide +kernel
theorem dX11_keep_123 : decode cX11_keep 123 = .ok (.sipush 200, 3) := by decide +kernel
theorem dX11_keep_126 : decode cX11_keep 126 = .ok (.aload_n 0, 1) := by decide +kernel
theorem dX11_keep_127 : decode cX11_keep 127 = .ok (.getfield 156, 3) := by decide +kernel
theorem dX11_keep_130 : decode cX11_keep 130 = .ok (.imul, 1) := by decide +kernel
theorem dX11_keep_131 : decode cX11_keep 131 = .ok (.iload_n 1, 1) := by decide +kernel
theorem dX11_keep_132 : decode cX11_keep 132 = .ok (.iadd, 1) := by decide +kernel
theorem dX11_keep_133 : decode cX11_keep 133 = .ok (.aload_n 0, 1) := by decide +kernel
theorem dX11_keep_134 : decode cX11_keep 134 = .ok (.getfield 45, 3) := by decide +kernel
theorem dX11_keep_137 : decode cX11_keep 137 = .ok (.iload_n 1, 1) := by decide +kernel
theorem dX11_keep_138 : decode cX11_keep 138 = .ok (.baload, 1) := by decide +kernel
theorem dX11_keep_139 : decode cX11_keep 139 = .ok (.bastore, 1) := by decide +kernel
theorem dX11_keep_140 : decode cX11_keep 140 = .ok (.aload_n 0, 1) := by decide +kernel
theorem dX11_keep_141 : decode cX11_keep 141 = .ok (.getfield 55, 3) := by decide +kernel
theorem dX11_keep_144 : decode cX11_keep 144 = .ok (.sipush 200, 3) := by decide +kernel
theorem dX11_keep_147 : decode cX11_keep 147 = .ok (.aload_n 0, 1) := by decide +kernel
theorem dX11_keep_148 : decode cX11_keep 148 = .ok (.getfield 156, 3) := by decide +kernel
theorem dX11_keep_151 : decode cX11_keep 151 = .ok (.imul, 1) := by decide +kernel
theorem dX11_keep_152 : decode cX11_keep 152 = .ok (.iload_n 1, 1) := by decide +kernel
theorem dX11_keep_153 : decode cX11_keep 153 = .ok (.iadd, 1) := by decide +kernel
theorem dX11_keep_154 : decode cX11_keep 154 = .ok (.aload_n 0, 1) := by decide +kernel
theorem dX11_keep_155 : decode cX11_keep 155 = .ok (.getfield 49, 3) := by decide +kernel
theorem dX11_keep_158 : decode cX11_keep 158 = .ok (.iload_n 1, 1) := by decide +kernel
theorem dX11_keep_159 : decode cX11_keep 159 = .ok (.baload, 1) := by decide +kernel
theorem dX11_keep_160 : decode cX11_keep 160 = .ok (.bastore, 1) := by decide +kernel
theorem dX11_keep_161 : decode cX11_keep 161 = .ok (.iinc 1 1, 3) := by decide +kernel
theorem dX11_keep_164 : decode cX11_keep 164 = .ok (.goto (-52), 3) := by decide +kernel
theorem dX11_keep_167 : decode cX11_keep 167 = .ok (.aload_n 0, 1) := by decide +kernel
theorem dX11_keep_168 : decode cX11_keep 168 = .ok (.getfield 58, 3) := by decide +kernel
theorem dX11_keep_171 : decode cX11_keep 171 = .ok (.aload_n 0, 1) := by decide +kernel
theorem dX11_keep_172 : decode cX11_keep 172 = .ok (.getfield 156, 3) := by decide +kernel
theorem dX11_keep_175 : decode cX11_keep 175 = .ok (.aload_n 0, 1) := by decide +kernel
theorem dX11_keep_176 : decode cX11_keep 176 = .ok (.getfield 159, 3) := by decide +kernel
theorem dX11_keep_179 : decode cX11_keep 179 = .ok (.iastore, 1) := by decide +kernel
theorem dX11_keep_180 : decode cX11_keep 180 = .ok (.aload_n 0, 1) := by decide +kernel
theorem dX11_keep_181 : decode cX11_keep 181 = .ok (.getfield 61, 3) := by decide +kernel
theorem dX11_keep_184 : decode cX11_keep 184 = .ok (.aload_n 0, 1) := by decide +kernel
theorem dX11_keep_185 : decode cX11_keep 185 = .ok (.getfield 156, 3) := by decide +kernel
theorem dX11_keep_188 : decode cX11_keep 188 = .ok (.aload_n 0, 1) := by decide +kernel
theorem dX11_keep_189 : decode cX11_keep 189 = .ok (.getfield 64, 3) := by decide +kernel
theorem dX11_keep_192 : decode cX11_keep 192 = .ok (.iastore, 1) := by decide +kernel
theorem dX11_keep_193 : decode cX11_keep 193 = .ok (.aload_n 0, 1) := by decide +kernel
theorem dX11_keep_194 : decode cX11_keep 194 = .ok (.dup, 1) := by decide +kernel
theorem dX11_keep_195 : decode cX11_keep 195 = .ok (.getfield 156, 3) := by decide +kernel
theorem dX11_keep_198 : decode cX11_keep 198 = .ok (.iconst 1, 1) := by decide +kernel
theorem dX11_keep_199 : decode cX11_keep 199 = .ok (.iadd, 1) := by decide +kernel
theorem dX11_keep_200 : decode cX11_keep 200 = .ok (.putfield 156, 3) := by decide +kernel
theorem dX11_keep_203 : decode cX11_keep 203 = .ok (.return_, 1) := by decide +kernel
theorem dX11_undo_0 : decode cX11_undo 0 = .ok (.aload_n 0, 1) := by decide +kernel
theorem dX11_undo_1 : decode cX11_undo 1 = .ok (.getfield 156, 3) := by decide +kernel
theorem dX11_undo_4 : decode cX11_undo 4 = .ok (.ifCond .ne 4, 3) := by decide +kernel
theorem dX11_undo_7 : decode cX11_undo 7 = .ok (.return_, 1) := by decide +kernel
theorem dX11_undo_8 : decode cX11_undo 8 = .ok (.aload_n 0, 1) := by decide +kernel
theorem dX11_undo_9 : decode cX11_undo 9 = .ok (.dup, 1) := by decide +kernel
theorem dX11_undo_10 : decode cX11_undo 10 = .ok (.getfield 156, 3) := by decide +kernel
theorem dX11_undo_13 : decode cX11_undo 13 = .ok (.iconst 1, 1) := by decide +kernel
theorem dX11_undo_14 : decode cX11_undo 14 = .ok (.isub, 1) := by decide +kernel
theorem dX11_undo_15 : decode cX11_undo 15 = .ok (.putfield 156, 3) := by decide +kernel
theorem dX11_undo_18 : decode cX11_undo 18 = .ok (.iconst 0, 1) := by decide +kernel
theorem dX11_undo_19 : decode cX11_undo 19 = .ok (.istore_n 1, 1) := by decide +kernel
theorem dX11_undo_20 : decode cX11_undo 20 = .ok (.iload_n 1, 1) := by decide +kernel
theorem dX11_undo_21 : decode cX11_undo 21 = .ok (.sipush 200, 3) := by decide +kernel
theorem dX11_undo_24 : decode cX11_undo 24 = .ok (.if_icmp .ge 51, 3) := by decide +kernel
theorem dX11_undo_27 : decode cX11_undo 27 = .ok (.aload_n 0, 1) := by decide +kernel
theorem dX11_undo_28 : decode cX11_undo 28 = .ok (.getfield 45, 3) := by decide +kernel
theorem dX11_undo_31 : decode cX11_undo 31 = .ok (.iload_n 1, 1) := by decide +kernel
theorem dX11_undo_32 : decode cX11_undo 32 = .ok (.aload_n 0, 1) := by decide +kernel
theorem dX11_undo_33 : decode cX11_undo 33 = .ok (.getfield 52, 3) := by decide +kernel
theorem dX11_undo_36 : decode cX11_undo 36 = .ok (.sipush 200, 3) := by decide +kernel
theorem dX11_undo_39 : decode cX11_undo 39 = .ok (.aload_n 0, 1) := by decide +kernel
theorem dX11_undo_40 : decode cX11_undo 40 = .ok (.getfield 156, 3) := by decide +kernel
theorem dX11_undo_43 : decode cX11_undo 43 = .ok (.imul, 1) := by decide +kernel
theorem dX11_undo_44 : decode cX11_undo 44 = .ok (.iload_n 1, 1) := by decide +kernel
theorem dX11_undo_45 : decode cX11_undo 45 = .ok (.iadd, 1) := by decide +kernel
theorem dX11_undo_46 : decode cX11_undo 46 = .ok (.baload, 1) := by decide +kernel
theorem dX11_undo_47 : decode cX11_undo 47 = .ok (.bastore, 1) := by decide +kernel
theorem dX11_undo_48 : decode cX11_undo 48 = .ok (.aload_n 0, 1) := by decide +kernel
theorem dX11_undo_49 : decode cX11_undo 49 = .ok (.getfield 49, 3) := by decide +kernel
theorem dX11_undo_52 : decode cX11_undo 52 = .ok (.iload_n 1, 1) := by decide +kernel
theorem dX11_undo_53 : decode cX11_undo 53 = .ok (.aload_n 0, 1) := by decide +kernel
theorem dX11_undo_54 : decode cX11_undo 54 = .ok (.getfield 55, 3) := by decide +kernel
theorem dX11_undo_57 : decode cX11_undo 57 = .ok (.sipush 200, 3) := by decide +kernel
theorem dX11_undo_60 : decode cX11_undo 60 = .ok (.aload_n 0, 1) := by decide +kernel
theorem dX11_undo_61 : decode cX11_undo 61 = .ok (.getfield 156, 3) := by decide +kernel
theorem dX11_undo_64 : decode cX11_undo 64 = .ok (.imul, 1) := by decide +kernel
theorem dX11_undo_65 : decode cX11_undo 65 = .ok (.iload_n 1, 1) := by decide +kernel
theorem dX11_undo_66 : decode cX11_undo 66 = .ok (.iadd, 1) := by decide +kernel
theorem dX11_undo_67 : decode cX11_undo 67 = .ok (.baload, 1) := by decide +kernel
theorem dX11_undo_68 : decode cX11_undo 68 = .ok (.bastore, 1) := by decide +kernel
theorem dX11_undo_69 : decode cX11_undo 69 = .ok (.iinc 1 1, 3) := by decide +kernel
theorem dX11_undo_72 : decode cX11_undo 72 = .ok (.goto (-52), 3) := by decide +kernel
theorem dX11_undo_75 : decode cX11_undo 75 = .ok (.aload_n 0, 1) := by decide +kernel
theorem dX11_undo_76 : decode cX11_undo 76 = .ok (.aload_n 0, 1) := by decide +kernel
theorem dX11_undo_77 : decode cX11_undo 77 = .ok (.getfield 58, 3) := by decide +kernel
theorem dX11_undo_80 : decode cX11_undo 80 = .ok (.aload_n 0, 1) := by decide +kernel
theorem dX11_undo_81 : decode cX11_undo 81 = .ok (.getfield 156, 3) := by decide +kernel
theorem dX11_undo_84 : decode cX11_undo 84 = .ok (.iaload, 1) := by decide +kernel
theorem dX11_undo_85 : decode cX11_undo 85 = .ok (.putfield 159, 3) := by decide +kernel
theorem dX11_undo_88 : decode cX11_undo 88 = .ok (.aload_n 0, 1) := by decide +kernel
theorem dX11_undo_89 : decode cX11_undo 89 = .ok (.aload_n 0, 1) := by decide +kernel
theorem dX11_undo_90 : decode cX11_undo 90 = .ok (.getfield 61, 3) := by decide +kernel
theorem dX11_undo_93 : decode cX11_undo 93 = .ok (.aload_n 0, 1) := by decide +kernel
theorem dX11_undo_94 : decode cX11_undo 94 = .ok (.getfield 156, 3) := by decide +kernel
theorem dX11_undo_97 : decode cX11_undo 97 = .ok (.iaload, 1) := by decide +kernel
theorem dX11_undo_98 : decode cX11_undo 98 = .ok (.putfield 64, 3) := by decide +kernel
theorem dX11_undo_101 : decode cX11_undo 101 = .ok (.return_, 1) := by decide +kernel
theorem dX11_put_0 : decode cX11_put 0 = .ok (.aload_n 0, 1) := by decide +kernel
theorem dX11_put_1 : decode cX11_put 1 = .ok (.getfield 45, 3) := by decide +kernel
theorem dX11_put_4 : decode cX11_put 4 = .ok (.aload_n 0, 1) := by decide +kernel
theorem dX11_put_5 : decode cX11_put 5 = .ok (.getfield 159, 3) := by decide +kernel
theorem dX11_put_8 : decode cX11_put 8 = .ok (.iload_n 1, 1) := by decide +kernel
theorem dX11_put_9 : decode cX11_put 9 = .ok (.i2b, 1) := by decide +kernel
theorem dX11_put_10 : decode cX11_put 10 = .ok (.bastore, 1) := by decide +kernel
theorem dX11_put_11 : decode cX11_put 11 = .ok (.aload_n 0, 1) := by decide +kernel
theorem dX11_put_12 : decode cX11_put 12 = .ok (.dup, 1) := by decide +kernel
theorem dX11_put_13 : decode cX11_put 13 = .ok (.getfield 159, 3) := by decide +kernel
theorem dX11_put_16 : decode cX11_put 16 = .ok (.iconst 1, 1) := by decide +kernel
theorem dX11_put_17 : decode cX11_put 17 = .ok (.iadd, 1) := by decide +kernel
theorem dX11_put_18 : decode cX11_put 18 = .ok (.putfield 159, 3) := by decide +kernel
theorem dX11_put_21 : decode cX11_put 21 = .ok (.return_, 1) := by decide +kernel
theorem dX11_acts_0 : decode cX11_acts 0 = .ok (.aload_n 0, 1) := by decide +kernel
theorem dX11_acts_1 : decode cX11_acts 1 = .ok (.getfield 9, 3) := by decide +kernel
theorem dX11_acts_4 : decode cX11_acts 4 = .ok (.iload_n 1, 1) := by decide +kernel
theorem dX11_acts_5 : decode cX11_acts 5 = .ok (.iaload, 1) := by decide +kernel
theorem dX11_acts_6 : decode cX11_acts 6 = .ok (.tableswitch 239 1 5 #[34, 60, 83, 149, 88], 34) := by decide +kernel
theorem dX11_acts_40 : decode cX11_acts 40 = .ok (.aload_n 0, 1) := by decide +kernel
theorem dX11_acts_41 : decode cX11_acts 41 = .ok (.getfield 159, 3) := by decide +kernel
theorem dX11_acts_44 : decode cX11_acts 44 = .ok (.sipush 200, 3) := by decide +kernel
theorem dX11_acts_47 : decode cX11_acts 47 = .ok (.if_icmp .ne 4, 3) := by decide +kernel
theorem dX11_acts_50 : decode cX11_acts 50 = .ok (.return_, 1) := by decide +kernel
theorem dX11_acts_51 : decode cX11_acts 51 = .ok (.aload_n 0, 1) := by decide +kernel
theorem dX11_acts_52 : decode cX11_acts 52 = .ok (.invokevirtual 162, 3) := by decide +kernel
theorem dX11_acts_55 : decode cX11_acts 55 = .ok (.aload_n 0, 1) := by decide +kernel
theorem dX11_acts_56 : decode cX11_acts 56 = .ok (.aload_n 0, 1) := by decide +kernel
theorem dX11_acts_57 : decode cX11_acts 57 = .ok (.getfield 13, 3) := by decide +kernel
theorem dX11_acts_60 : decode cX11_acts 60 = .ok (.iload_n 1, 1) := by decide +kernel
theorem dX11_acts_61 : decode cX11_acts 61 = .ok (.iaload, 1) := by decide +kernel
theorem dX11_acts_62 : decode cX11_acts 62 = .ok (.invokevirtual 165, 3) := by decide +kernel
theorem dX11_acts_65 : decode cX11_acts 65 = .ok (.return_, 1) := by decide +kernel
theorem dX11_acts_66 : decode cX11_acts 66 = .ok (.aload_n 0, 1) := by decide +kernel
theorem dX11_acts_67 : decode cX11_acts 67 = .ok (.getfield 159, 3) := by decide +kernel
theorem dX11_acts_70 : decode cX11_acts 70 = .ok (.ifCond .ne 4, 3) := by decide +kernel
theorem dX11_acts_73 : decode cX11_acts 73 = .ok (.return_, 1) := by decide +kernel
theorem dX11_acts_74 : decode cX11_acts 74 = .ok (.aload_n 0, 1) := by decide +kernel
theorem dX11_acts_75 : decode cX11_acts 75 = .ok (.invokevirtual 162, 3) := by decide +kernel
theorem dX11_acts_78 : decode cX11_acts 78 = .ok (.aload_n 0, 1) := by decide +kernel
theorem dX11_acts_79 : decode cX11_acts 79 = .ok (.dup, 1) := by decide +kernel
theorem dX11_acts_80 : decode cX11_acts 80 = .ok (.getfield 159, 3) := by decide +kernel
theorem dX11_acts_83 : decode cX11_acts 83 = .ok (.iconst 1, 1) := by decide +kernel
theorem dX11_acts_84 : decode cX11_acts 84 = .ok (.isub, 1) := by decide +kernel
theorem dX11_acts_85 : decode cX11_acts 85 = .ok (.putfield 159, 3) := by decide +kernel
theorem dX11_acts_88 : decode cX11_acts 88 = .ok (.return_, 1) := by decide +kernel
theorem dX11_acts_89 : decode cX11_acts 89 = .ok (.aload_n 0, 1) := by decide +kernel
theorem dX11_acts_90 : decode cX11_acts 90 = .ok (.invokevirtual 168, 3) := by decide +kernel
theorem dX11_acts_93 : decode cX11_acts 93 = .ok (.return_, 1) := by decide +kernel
theorem dX11_acts_94 : decode cX11_acts 94 = .ok (.aload_n 0, 1) := by decide +kernel
theorem dX11_acts_95 : decode cX11_acts 95 = .ok (.getfield 159, 3) := by decide +kernel
theorem dX11_acts_98 : decode cX11_acts 98 = .ok (.ifCond .ne 11, 3) := by decide +kernel
theorem dX11_acts_101 : decode cX11_acts 101 = .ok (.aload_n 0, 1) := by decide +kernel
theorem dX11_acts_102 : decode cX11_acts 102 = .ok (.getfield 64, 3) := by decide +kernel
theorem dX11_acts_105 : decode cX11_acts 105 = .ok (.ifCond .ne 4, 3) := by decide +kernel
theorem dX11_acts_108 : decode cX11_acts 108 = .ok (.return_, 1) := by decide +kernel
theorem dX11_acts_109 : decode cX11_acts 109 = .ok (.aload_n 0, 1) := by decide +kernel
theorem dX11_acts_110 : decode cX11_acts 110 = .ok (.invokevirtual 162, 3) := by decide +kernel
theorem dX11_acts_113 : decode cX11_acts 113 = .ok (.iconst 0, 1) := by decide +kernel
theorem dX11_acts_114 : decode cX11_acts 114 = .ok (.istore_n 2, 1) := by decide +kernel
theorem dX11_acts_115 : decode cX11_acts 115 = .ok (.iload_n 2, 1) := by decide +kernel
theorem dX11_acts_116 : decode cX11_acts 116 = .ok (.aload_n 0, 1) := by decide +kernel
theorem dX11_acts_117 : decode cX11_acts 117 = .ok (.getfield 159, 3) := by decide +kernel
theorem dX11_acts_120 : decode cX11_acts 120 = .ok (.if_icmp .ge 21, 3) := by decide +kernel
theorem dX11_acts_123 : decode cX11_acts 123 = .ok (.aload_n 0, 1) := by decide +kernel
theorem dX11_acts_124 : decode cX11_acts 124 = .ok (.getfield 49, 3) := by decide +kernel
theorem dX11_acts_127 : decode cX11_acts 127 = .ok (.iload_n 2, 1) := by decide +kernel
theorem dX11_acts_128 : decode cX11_acts 128 = .ok (.aload_n 0, 1) := by decide +kernel
theorem dX11_acts_129 : decode cX11_acts 129 = .ok (.getfield 45, 3) := by decide +kernel
theorem dX11_acts_132 : decode cX11_acts 132 = .ok (.iload_n 2, 1) := by decide +kernel
theorem dX11_acts_133 : decode cX11_acts 133 = .ok (.baload, 1) := by decide +kernel
theorem dX11_acts_134 : decode cX11_acts 134 = .ok (.bastore, 1) := by decide +kernel
theorem dX11_acts_135 : decode cX11_acts 135 = .ok (.iinc 2 1, 3) := by decide +kernel
theorem dX11_acts_138 : decode cX11_acts 138 = .ok (.goto (-23), 3) := by decide +kernel
theorem dX11_acts_141 : decode cX11_acts 141 = .ok (.aload_n 0, 1) := by decide +kernel
theorem dX11_acts_142 : decode cX11_acts 142 = .ok (.aload_n 0, 1) := by decide +kernel
theorem dX11_acts_143 : decode cX11_acts 143 = .ok (.getfield 159, 3) := by decide +kernel
theorem dX11_acts_146 : decode cX11_acts 146 = .ok (.putfield 64, 3) := by decide +kernel
theorem dX11_acts_149 : decode cX11_acts 149 = .ok (.aload_n 0, 1) := by decide +kernel
theorem dX11_acts_150 : decode cX11_acts 150 = .ok (.iconst 0, 1) := by decide +kernel
theorem dX11_acts_151 : decode cX11_acts 151 = .ok (.putfield 159, 3) := by decide +kernel
theorem dX11_acts_154 : decode cX11_acts 154 = .ok (.return_, 1) := by decide +kernel
theorem dX11_acts_155 : decode cX11_acts 155 = .ok (.aload_n 0, 1) := by decide +kernel
theorem dX11_acts_156 : decode cX11_acts 156 = .ok (.aload_n 0, 1) := by decide +kernel
theorem dX11_acts_157 : decode cX11_acts 157 = .ok (.getfield 13, 3) := by decide +kernel
theorem dX11_acts_160 : decode cX11_acts 160 = .ok (.iload_n 1, 1) := by decide +kernel
theorem dX11_acts_161 : decode cX11_acts 161 = .ok (.iaload, 1) := by decide +kernel
theorem dX11_acts_162 : decode cX11_acts 162 = .ok (.invokevirtual 171, 3) := by decide +kernel
theorem dX11_acts_165 : decode cX11_acts 165 = .ok (.istore_n 2, 1) := by decide +kernel
theorem dX11_acts_166 : decode cX11_acts 166 = .ok (.aload_n 0, 1) := by decide +kernel
theorem dX11_acts_167 : decode cX11_acts 167 = .ok (.invokevirtual 174, 3) := by decide +kernel
theorem dX11_acts_170 : decode cX11_acts 170 = .ok (.istore_n 3, 1) := by decide +kernel
theorem dX11_acts_171 : decode cX11_acts 171 = .ok (.iload_n 2, 1) := by decide +kernel
theorem dX11_acts_172 : decode cX11_acts 172 = .ok (.iconst (-1), 1) := by decide +kernel
theorem dX11_acts_173 : decode cX11_acts 173 = .ok (.if_icmp .eq 24, 3) := by decide +kernel
theorem dX11_acts_176 : decode cX11_acts 176 = .ok (.aload_n 0, 1) := by decide +kernel
theorem dX11_acts_177 : decode cX11_acts 177 = .ok (.getfield 159, 3) := by decide +kernel
theorem dX11_acts_180 : decode cX11_acts 180 = .ok (.aload_n 0, 1) := by decide +kernel
theorem dX11_acts_181 : decode cX11_acts 181 = .ok (.getfield 73, 3) := by decide +kernel
theorem dX11_acts_184 : decode cX11_acts 184 = .ok (.iload_n 2, 1) := by decide +kernel
theorem dX11_acts_185 : decode cX11_acts 185 = .ok (.iaload, 1) := by decide +kernel
theorem dX11_acts_186 : decode cX11_acts 186 = .ok (.iadd, 1) := by decide +kernel
theorem dX11_acts_187 : decode cX11_acts 187 = .ok (.iload_n 3, 1) := by decide +kernel
theorem dX11_acts_188 : decode cX11_acts 188 = .ok (.isub, 1) := by decide +kernel
theorem dX11_acts_189 : decode cX11_acts 189 = .ok (.iconst 1, 1) := by decide +kernel
theorem dX11_acts_190 : decode cX11_acts 190 = .ok (.iadd, 1) := by decide +kernel
theorem dX11_acts_191 : decode cX11_acts 191 = .ok (.sipush 200, 3) := by decide +kernel
theorem dX11_acts_194 : decode cX11_acts 194 = .ok (.if_icmp .le 4, 3) := by decide +kernel
theorem dX11_acts_197 : decode cX11_acts 197 = .ok (.return_, 1) := by decide +kernel
theorem dX11_acts_198 : decode cX11_acts 198 = .ok (.aload_n 0, 1) := by decide +kernel
theorem dX11_acts_199 : decode cX11_acts 199 = .ok (.invokevirtual 162, 3) := by decide +kernel
theorem dX11_acts_202 : decode cX11_acts 202 = .ok (.iload_n 3, 1) := by decide +kernel
theorem dX11_acts_203 : decode cX11_acts 203 = .ok (.istore 4, 2) := by decide +kernel
theorem dX11_acts_205 : decode cX11_acts 205 = .ok (.iload 4, 2) := by decide +kernel
theorem dX11_acts_207 : decode cX11_acts 207 = .ok (.aload_n 0, 1) := by decide +kernel
theorem dX11_acts_208 : decode cX11_acts 208 = .ok (.getfield 73, 3) := by decide +kernel
theorem dX11_acts_211 : decode cX11_acts 211 = .ok (.iload_n 2, 1) := by decide +kernel
theorem dX11_acts_212 : decode cX11_acts 212 = .ok (.iaload, 1) := by decide +kernel
theorem dX11_acts_213 : decode cX11_acts 213 = .ok (.if_icmp .ge 25, 3) := by decide +kernel
theorem dX11_acts_216 : decode cX11_acts 216 = .ok (.aload_n 0, 1) := by decide +kernel
theorem dX11_acts_217 : decode cX11_acts 217 = .ok (.aload_n 0, 1) := by decide +kernel
theorem dX11_acts_218 : decode cX11_acts 218 = .ok (.getfield 70, 3) := by decide +kernel
theorem dX11_acts_221 : decode cX11_acts 221 = .ok (.bipush 12, 2) := by decide +kernel
theorem dX11_acts_223 : decode cX11_acts 223 = .ok (.iload_n 2, 1) := by decide +kernel
theorem dX11_acts_224 : decode cX11_acts 224 = .ok (.imul, 1) := by decide +kernel
theorem dX11_acts_225 : decode cX11_acts 225 = .ok (.iload 4, 2) := by decide +kernel
theorem dX11_acts_227 : decode cX11_acts 227 = .ok (.iadd, 1) := by decide +kernel
theorem dX11_acts_228 : decode cX11_acts 228 = .ok (.baload, 1) := by decide +kernel
theorem dX11_acts_229 : decode cX11_acts 229 = .ok (.invokevirtual 165, 3) := by decide +kernel
theorem dX11_acts_232 : decode cX11_acts 232 = .ok (.iinc 4 1, 3) := by decide +kernel
theorem dX11_acts_235 : decode cX11_acts 235 = .ok (.goto (-30), 3) := by decide +kernel
theorem dX11_acts_238 : decode cX11_acts 238 = .ok (.aload_n 0, 1) := by decide +kernel
theorem dX11_acts_239 : decode cX11_acts 239 = .ok (.bipush 32, 2) := by decide +kernel
theorem dX11_acts_241 : decode cX11_acts 241 = .ok (.invokevirtual 165, 3) := by decide +kernel
theorem dX11_acts_244 : decode cX11_acts 244 = .ok (.return_, 1) := by decide +kernel
theorem dX11_acts_245 : decode cX11_acts 245 = .ok (.aload_n 0, 1) := by decide +kernel
theorem dX11_acts_246 : decode cX11_acts 246 = .ok (.aload_n 0, 1) := by decide +kernel
theorem dX11_acts_247 : decode cX11_acts 247 = .ok (.getfield 13, 3) := by decide +kernel
theorem dX11_acts_250 : decode cX11_acts 250 = .ok (.iload_n 1, 1) := by decide +kernel
theorem dX11_acts_251 : decode cX11_acts 251 = .ok (.iaload, 1) := by decide +kernel
theorem dX11_acts_252 : decode cX11_acts 252 = .ok (.invokevirtual 178, 3) := by decide +kernel
theorem dX11_acts_255 : decode cX11_acts 255 = .ok (.istore_n 2, 1) := by decide +kernel
theorem dX11_acts_256 : decode cX11_acts 256 = .ok (.iload_n 2, 1) := by decide +kernel
theorem dX11_acts_257 : decode cX11_acts 257 = .ok (.iconst (-1), 1) := by decide +kernel
theorem dX11_acts_258 : decode cX11_acts 258 = .ok (.if_icmp .ne 4, 3) := by decide +kernel
theorem dX11_acts_261 : decode cX11_acts 261 = .ok (.return_, 1) := by decide +kernel
theorem dX11_acts_262 : decode cX11_acts 262 = .ok (.aload_n 0, 1) := by decide +kernel
theorem dX11_acts_263 : decode cX11_acts 263 = .ok (.invokevirtual 162, 3) := by decide +kernel
theorem dX11_acts_266 : decode cX11_acts 266 = .ok (.aload_n 0, 1) := by decide +kernel
theorem dX11_acts_267 : decode cX11_acts 267 = .ok (.dup, 1) := by decide +kernel
theorem dX11_acts_268 : decode cX11_acts 268 = .ok (.getfield 159, 3) := by decide +kernel
theorem dX11_acts_271 : decode cX11_acts 271 = .ok (.aload_n 0, 1) := by decide +kernel
theorem dX11_acts_272 : decode cX11_acts 272 = .ok (.invokevirtual 174, 3) := by decide +kernel
theorem dX11_acts_275 : decode cX11_acts 275 = .ok (.isub, 1) := by decide +kernel
theorem dX11_acts_276 : decode cX11_acts 276 = .ok (.putfield 159, 3) := by decide +kernel
theorem dX11_acts_279 : decode cX11_acts 279 = .ok (.iconst 0, 1) := by decide +kernel
theorem dX11_acts_280 : decode cX11_acts 280 = .ok (.istore_n 3, 1) := by decide +kernel
theorem dX11_acts_281 : decode cX11_acts 281 = .ok (.iload_n 3, 1) := by decide +kernel
theorem dX11_acts_282 : decode cX11_acts 282 = .ok (.aload_n 0, 1) := by decide +kernel
theorem dX11_acts_283 : decode cX11_acts 283 = .ok (.getfield 73, 3) := by decide +kernel
theorem dX11_acts_286 : decode cX11_acts 286 = .ok (.iload_n 2, 1) := by decide +kernel
theorem dX11_acts_287 : decode cX11_acts 287 = .ok (.iaload, 1) := by decide +kernel
theorem dX11_acts_288 : decode cX11_acts 288 = .ok (.if_icmp .ge 24, 3) := by decide +kernel
theorem dX11_acts_291 : decode cX11_acts 291 = .ok (.aload_n 0, 1) := by decide +kernel
theorem dX11_acts_292 : decode cX11_acts 292 = .ok (.aload_n 0, 1) := by decide +kernel
theorem dX11_acts_293 : decode cX11_acts 293 = .ok (.getfield 70, 3) := by decide +kernel
theorem dX11_acts_296 : decode cX11_acts 296 = .ok (.bipush 12, 2) := by decide +kernel
theorem dX11_acts_298 : decode cX11_acts 298 = .ok (.iload_n 2, 1) := by decide +kernel
theorem dX11_acts_299 : decode cX11_acts 299 = .ok (.imul, 1) := by decide +kernel
theorem dX11_acts_300 : decode cX11_acts 300 = .ok (.iload_n 3, 1) := by decide +kernel
theorem dX11_acts_301 : decode cX11_acts 301 = .ok (.iadd, 1) := by decide +kernel
theorem dX11_acts_302 : decode cX11_acts 302 = .ok (.baload, 1) := by decide +kernel
theorem dX11_acts_303 : decode cX11_acts 303 = .ok (.invokevirtual 165, 3) := by decide +kernel
theorem dX11_acts_306 : decode cX11_acts 306 = .ok (.iinc 3 1, 3) := by decide +kernel
theorem dX11_acts_309 : decode cX11_acts 309 = .ok (.goto (-28), 3) := by decide +kernel
theorem dX11_acts_312 : decode cX11_acts 312 = .ok (.return_, 1) := by decide +kernel
theorem dX11_length_0 : decode cX11_length 0 = .ok (.aload_n 0, 1) := by decide +kernel
theorem dX11_length_1 : decode cX11_length 1 = .ok (.iconst 0, 1) := by decide +kernel
theorem dX11_length_2 : decode cX11_length 2 = .ok (.putfield 98, 3) := by decide +kernel
theorem dX11_length_5 : decode cX11_length 5 = .ok (.iload_n 1, 1) := by decide +kernel
theorem dX11_length_6 : decode cX11_length 6 = .ok (.ifCond .ne 10, 3) := by decide +kernel
theorem dX11_length_9 : decode cX11_length 9 = .ok (.aload_n 0, 1) := by decide +kernel
theorem dX11_length_10 : decode cX11_length 10 = .ok (.getfield 159, 3) := by decide +kernel
theorem dX11_length_13 : decode cX11_length 13 = .ok (.goto 16, 3) := by decide +kernel
theorem dX11_length_16 : decode cX11_length 16 = .ok (.iload_n 1, 1) := by decide +kernel
theorem dX11_length_17 : decode cX11_length 17 = .ok (.iconst 1, 1) := by decide +kernel
theorem dX11_length_18 : decode cX11_length 18 = .ok (.if_icmp .ne 10, 3) := by decide +kernel
theorem dX11_length_21 : decode cX11_length 21 = .ok (.aload_n 0, 1) := by decide +kernel
theorem dX11_length_22 : decode cX11_length 22 = .ok (.getfield 64, 3) := by decide +kernel
theorem dX11_length_25 : decode cX11_length 25 = .ok (.goto 4, 3) := by decide +kernel
theorem dX11_length_28 : decode cX11_length 28 = .ok (.iconst (-1), 1) := by decide +kernel
theorem dX11_length_29 : decode cX11_length 29 = .ok (.ireturn, 1) := by decide +kernel
theorem dX11_at_0 : decode cX11_at 0 = .ok (.aload_n 0, 1) := by decide +kernel
theorem dX11_at_1 : decode cX11_at 1 = .ok (.iload_n 1, 1) := by decide +kernel
theorem dX11_at_2 : decode cX11_at 2 = .ok (.iconst 0, 1) := by decide +kernel
theorem dX11_at_3 : decode cX11_at 3 = .ok (.iconst 1, 1) := by decide +kernel
theorem dX11_at_4 : decode cX11_at 4 = .ok (.invokestatic 120, 3) := by decide +kernel
theorem dX11_at_7 : decode cX11_at 7 = .ok (.ifCond .eq 26, 3) := by decide +kernel
theorem dX11_at_10 : decode cX11_at 10 = .ok (.iload_n 2, 1) := by decide +kernel
theorem dX11_at_11 : decode cX11_at 11 = .ok (.ifCond .lt 22, 3) := by decide +kernel
theorem dX11_at_14 : decode cX11_at 14 = .ok (.iload_n 2, 1) := by decide +kernel
theorem dX11_at_15 : decode cX11_at 15 = .ok (.iload_n 1, 1) := by decide +kernel
theorem dX11_at_16 : decode cX11_at 16 = .ok (.ifCond .ne 10, 3) := by decide +kernel
theorem dX11_at_19 : decode cX11_at 19 = .ok (.aload_n 0, 1) := by decide +kernel
theorem dX11_at_20 : decode cX11_at 20 = .ok (.getfield 159, 3) := by decide +kernel
theorem dX11_at_23 : decode cX11_at 23 = .ok (.goto 7, 3) := by decide +kernel
theorem dX11_at_26 : decode cX11_at 26 = .ok (.aload_n 0, 1) := by decide +kernel
theorem dX11_at_27 : decode cX11_at 27 = .ok (.getfield 64, 3) := by decide +kernel
theorem dX11_at_30 : decode cX11_at 30 = .ok (.if_icmp .lt 7, 3) := by decide +kernel
theorem dX11_at_33 : decode cX11_at 33 = .ok (.iconst 1, 1) := by decide +kernel
theorem dX11_at_34 : decode cX11_at 34 = .ok (.goto 4, 3) := by decide +kernel
theorem dX11_at_37 : decode cX11_at 37 = .ok (.iconst 0, 1) := by decide +kernel
theorem dX11_at_38 : decode cX11_at 38 = .ok (.putfield 98, 3) := by decide +kernel
theorem dX11_at_41 : decode cX11_at 41 = .ok (.aload_n 0, 1) := by decide +kernel
theorem dX11_at_42 : decode cX11_at 42 = .ok (.getfield 98, 3) := by decide +kernel
theorem dX11_at_45 : decode cX11_at 45 = .ok (.ifCond .le 7, 3) := by decide +kernel
theorem dX11_at_48 : decode cX11_at 48 = .ok (.iconst 0, 1) := by decide +kernel
theorem dX11_at_49 : decode cX11_at 49 = .ok (.goto 22, 3) := by decide +kernel
theorem dX11_at_52 : decode cX11_at 52 = .ok (.iload_n 1, 1) := by decide +kernel
theorem dX11_at_53 : decode cX11_at 53 = .ok (.ifCond .ne 12, 3) := by decide +kernel
theorem dX11_at_56 : decode cX11_at 56 = .ok (.aload_n 0, 1) := by decide +kernel
theorem dX11_at_57 : decode cX11_at 57 = .ok (.getfield 45, 3) := by decide +kernel
theorem dX11_at_60 : decode cX11_at 60 = .ok (.iload_n 2, 1) := by decide +kernel
theorem dX11_at_61 : decode cX11_at 61 = .ok (.baload, 1) := by decide +kernel
theorem dX11_at_62 : decode cX11_at 62 = .ok (.goto 9, 3) := by decide +kernel
theorem dX11_at_65 : decode cX11_at 65 = .ok (.aload_n 0, 1) := by decide +kernel
theorem dX11_at_66 : decode cX11_at 66 = .ok (.getfield 49, 3) := by decide +kernel
theorem dX11_at_69 : decode cX11_at 69 = .ok (.iload_n 2, 1) := by decide +kernel
theorem dX11_at_70 : decode cX11_at 70 = .ok (.baload, 1) := by decide +kernel
theorem dX11_at_71 : decode cX11_at 71 = .ok (.ireturn, 1) := by decide +kernel
theorem dX11_bytesIn_0 : decode cX11_bytesIn 0 = .ok (.iconst 0, 1) := by decide +kernel
theorem dX11_bytesIn_1 : decode cX11_bytesIn 1 = .ok (.istore_n 1, 1) := by decide +kernel
theorem dX11_bytesIn_2 : decode cX11_bytesIn 2 = .ok (.bipush 24, 2) := by decide +kernel
theorem dX11_bytesIn_4 : decode cX11_bytesIn 4 = .ok (.istore_n 2, 1) := by decide +kernel
theorem dX11_bytesIn_5 : decode cX11_bytesIn 5 = .ok (.iload_n 2, 1) := by decide +kernel
theorem dX11_bytesIn_6 : decode cX11_bytesIn 6 = .ok (.ifCond .lt 27, 3) := by decide +kernel
theorem dX11_bytesIn_9 : decode cX11_bytesIn 9 = .ok (.iload_n 1, 1) := by decide +kernel
theorem dX11_bytesIn_10 : decode cX11_bytesIn 10 = .ok (.iload_n 0, 1) := by decide +kernel
theorem dX11_bytesIn_11 : decode cX11_bytesIn 11 = .ok (.iload_n 2, 1) := by decide +kernel
theorem dX11_bytesIn_12 : decode cX11_bytesIn 12 = .ok (.ishr, 1) := by decide +kernel
theorem dX11_bytesIn_13 : decode cX11_bytesIn 13 = .ok (.sipush 255, 3) := by decide +kernel
theorem dX11_bytesIn_16 : decode cX11_bytesIn 16 = .ok (.iand, 1) := by decide +kernel
theorem dX11_bytesIn_17 : decode cX11_bytesIn 17 = .ok (.ifCond .eq 7, 3) := by decide +kernel
theorem dX11_bytesIn_20 : decode cX11_bytesIn 20 = .ok (.iconst 1, 1) := by decide +kernel
theorem dX11_bytesIn_21 : decode cX11_bytesIn 21 = .ok (.goto 4, 3) := by decide +kernel
theorem dX11_bytesIn_24 : decode cX11_bytesIn 24 = .ok (.iconst 0, 1) := by decide +kernel
theorem dX11_bytesIn_25 : decode cX11_bytesIn 25 = .ok (.iadd, 1) := by decide +kernel
theorem dX11_bytesIn_26 : decode cX11_bytesIn 26 = .ok (.istore_n 1, 1) := by decide +kernel
theorem dX11_bytesIn_27 : decode cX11_bytesIn 27 = .ok (.iinc 2 (-8), 3) := by decide +kernel
theorem dX11_bytesIn_30 : decode cX11_bytesIn 30 = .ok (.goto (-25), 3) := by decide +kernel
theorem dX11_bytesIn_33 : decode cX11_bytesIn 33 = .ok (.iload_n 1, 1) := by decide +kernel
theorem dX11_bytesIn_34 : decode cX11_bytesIn 34 = .ok (.ireturn, 1) := by decide +kernel
theorem dX11_feed_0 : decode cX11_feed 0 = .ok (.aload_n 0, 1) := by decide +kernel
theorem dX11_feed_1 : decode cX11_feed 1 = .ok (.iconst 0, 1) := by decide +kernel
theorem dX11_feed_2 : decode cX11_feed 2 = .ok (.putfield 98, 3) := by decide +kernel
theorem dX11_feed_5 : decode cX11_feed 5 = .ok (.aload_n 0, 1) := by decide +kernel
theorem dX11_feed_6 : decode cX11_feed 6 = .ok (.getfield 181, 3) := by decide +kernel
theorem dX11_feed_9 : decode cX11_feed 9 = .ok (.iload_n 1, 1) := by decide +kernel
theorem dX11_feed_10 : decode cX11_feed 10 = .ok (.invokestatic 184, 3) := by decide +kernel
theorem dX11_feed_13 : decode cX11_feed 13 = .ok (.iadd, 1) := by decide +kernel
theorem dX11_feed_14 : decode cX11_feed 14 = .ok (.iload_n 2, 1) := by decide +kernel
theorem dX11_feed_15 : decode cX11_feed 15 = .ok (.invokestatic 184, 3) := by decide +kernel
theorem dX11_feed_18 : decode cX11_feed 18 = .ok (.iadd, 1) := by decide +kernel
theorem dX11_feed_19 : decode cX11_feed 19 = .ok (.bipush 26, 2) := by decide +kernel
theorem dX11_feed_21 : decode cX11_feed 21 = .ok (.if_icmp .le 5, 3) := by decide +kernel
theorem dX11_feed_24 : decode cX11_feed 24 = .ok (.iconst (-1), 1) := by decide +kernel
theorem dX11_feed_25 : decode cX11_feed 25 = .ok (.ireturn, 1) := by decide +kernel
theorem dX11_feed_26 : decode cX11_feed 26 = .ok (.iconst 0, 1) := by decide +kernel
theorem dX11_feed_27 : decode cX11_feed 27 = .ok (.istore_n 3, 1) := by decide +kernel
theorem dX11_feed_28 : decode cX11_feed 28 = .ok (.iload_n 3, 1) := by decide +kernel
theorem dX11_feed_29 : decode cX11_feed 29 = .ok (.iconst 2, 1) := by decide +kernel
theorem dX11_feed_30 : decode cX11_feed 30 = .ok (.if_icmp .ge 75, 3) := by decide +kernel
theorem dX11_feed_33 : decode cX11_feed 33 = .ok (.iload_n 3, 1) := by decide +kernel
theorem dX11_feed_34 : decode cX11_feed 34 = .ok (.ifCond .ne 7, 3) := by decide +kernel
theorem dX11_feed_37 : decode cX11_feed 37 = .ok (.iload_n 1, 1) := by decide +kernel
theorem dX11_feed_38 : decode cX11_feed 38 = .ok (.goto 4, 3) := by decide +kernel
theorem dX11_feed_41 : decode cX11_feed 41 = .ok (.iload_n 2, 1) := by decide +kernel
theorem dX11_feed_42 : decode cX11_feed 42 = .ok (.istore 4, 2) := by decide +kernel
theorem dX11_feed_44 : decode cX11_feed 44 = .ok (.bipush 24, 2) := by decide +kernel
theorem dX11_feed_46 : decode cX11_feed 46 = .ok (.istore 5, 2) := by decide +kernel
theorem dX11_feed_48 : decode cX11_feed 48 = .ok (.iload 5, 2) := by decide +kernel
theorem dX11_feed_50 : decode cX11_feed 50 = .ok (.ifCond .lt 49, 3) := by decide +kernel
theorem dX11_feed_53 : decode cX11_feed 53 = .ok (.iload 4, 2) := by decide +kernel
theorem dX11_feed_55 : decode cX11_feed 55 = .ok (.iload 5, 2) := by decide +kernel
theorem dX11_feed_57 : decode cX11_feed 57 = .ok (.ishr, 1) := by decide +kernel
theorem dX11_feed_58 : decode cX11_feed 58 = .ok (.sipush 255, 3) := by decide +kernel
theorem dX11_feed_61 : decode cX11_feed 61 = .ok (.iand, 1) := by decide +kernel
theorem dX11_feed_62 : decode cX11_feed 62 = .ok (.ifCond .ne 6, 3) := by decide +kernel
theorem dX11_feed_65 : decode cX11_feed 65 = .ok (.goto 28, 3) := by decide +kernel
theorem dX11_feed_68 : decode cX11_feed 68 = .ok (.aload_n 0, 1) := by decide +kernel
theorem dX11_feed_69 : decode cX11_feed 69 = .ok (.getfield 67, 3) := by decide +kernel
theorem dX11_feed_72 : decode cX11_feed 72 = .ok (.aload_n 0, 1) := by decide +kernel
theorem dX11_feed_73 : decode cX11_feed 73 = .ok (.getfield 181, 3) := by decide +kernel
theorem dX11_feed_76 : decode cX11_feed 76 = .ok (.iload 4, 2) := by decide +kernel
theorem dX11_feed_78 : decode cX11_feed 78 = .ok (.iload 5, 2) := by decide +kernel
theorem dX11_feed_80 : decode cX11_feed 80 = .ok (.ishr, 1) := by decide +kernel
theorem dX11_feed_81 : decode cX11_feed 81 = .ok (.i2b, 1) := by decide +kernel
theorem dX11_feed_82 : decode cX11_feed 82 = .ok (.bastore, 1) := by decide +kernel
theorem dX11_feed_83 : decode cX11_feed 83 = .ok (.aload_n 0, 1) := by decide +kernel
theorem dX11_feed_84 : decode cX11_feed 84 = .ok (.dup, 1) := by decide +kernel
theorem dX11_feed_85 : decode cX11_feed 85 = .ok (.getfield 181, 3) := by decide +kernel
theorem dX11_feed_88 : decode cX11_feed 88 = .ok (.iconst 1, 1) := by decide +kernel
theorem dX11_feed_89 : decode cX11_feed 89 = .ok (.iadd, 1) := by decide +kernel
theorem dX11_feed_90 : decode cX11_feed 90 = .ok (.putfield 181, 3) := by decide +kernel
theorem dX11_feed_93 : decode cX11_feed 93 = .ok (.iinc 5 (-8), 3) := by decide +kernel
theorem dX11_feed_96 : decode cX11_feed 96 = .ok (.goto (-48), 3) := by decide +kernel
theorem dX11_feed_99 : decode cX11_feed 99 = .ok (.iinc 3 1, 3) := by decide +kernel
theorem dX11_feed_102 : decode cX11_feed 102 = .ok (.goto (-74), 3) := by decide +kernel
theorem dX11_feed_105 : decode cX11_feed 105 = .ok (.aload_n 0, 1) := by decide +kernel
theorem dX11_feed_106 : decode cX11_feed 106 = .ok (.getfield 181, 3) := by decide +kernel
theorem dX11_feed_109 : decode cX11_feed 109 = .ok (.ireturn, 1) := by decide +kernel
theorem dX11_end_0 : decode cX11_end 0 = .ok (.aload_n 0, 1) := by decide +kernel
theorem dX11_end_1 : decode cX11_end 1 = .ok (.iconst 0, 1) := by decide +kernel
theorem dX11_end_2 : decode cX11_end 2 = .ok (.putfield 98, 3) := by decide +kernel
theorem dX11_end_5 : decode cX11_end 5 = .ok (.iload_n 1, 1) := by decide +kernel
theorem dX11_end_6 : decode cX11_end 6 = .ok (.ifCond .lt 11, 3) := by decide +kernel
theorem dX11_end_9 : decode cX11_end 9 = .ok (.iload_n 1, 1) := by decide +kernel
theorem dX11_end_10 : decode cX11_end 10 = .ok (.aload_n 0, 1) := by decide +kernel
theorem dX11_end_11 : decode cX11_end 11 = .ok (.getfield 181, 3) := by decide +kernel
theorem dX11_end_14 : decode cX11_end 14 = .ok (.if_icmp .le 5, 3) := by decide +kernel
theorem dX11_end_17 : decode cX11_end 17 = .ok (.iconst 0, 1) := by decide +kernel
theorem dX11_end_18 : decode cX11_end 18 = .ok (.ireturn, 1) := by decide +kernel
theorem dX11_end_19 : decode cX11_end 19 = .ok (.aload_n 0, 1) := by decide +kernel
theorem dX11_end_20 : decode cX11_end 20 = .ok (.iload_n 1, 1) := by decide +kernel
theorem dX11_end_21 : decode cX11_end 21 = .ok (.putfield 181, 3) := by decide +kernel
theorem dX11_end_24 : decode cX11_end 24 = .ok (.iconst 1, 1) := by decide +kernel
theorem dX11_end_25 : decode cX11_end 25 = .ok (.ireturn, 1) := by decide +kernel
theorem dX11_isRow_0 : decode cX11_isRow 0 = .ok (.aload_n 0, 1) := by decide +kernel
theorem dX11_isRow_1 : decode cX11_isRow 1 = .ok (.getfield 181, 3) := by decide +kernel
theorem dX11_isRow_4 : decode cX11_isRow 4 = .ok (.ifCond .le 7, 3) := by decide +kernel
theorem dX11_isRow_7 : decode cX11_isRow 7 = .ok (.iconst 1, 1) := by decide +kernel
theorem dX11_isRow_8 : decode cX11_isRow 8 = .ok (.goto 4, 3) := by decide +kernel
theorem dX11_isRow_11 : decode cX11_isRow 11 = .ok (.iconst 0, 1) := by decide +kernel
theorem dX11_isRow_12 : decode cX11_isRow 12 = .ok (.istore_n 1, 1) := by decide +kernel
theorem dX11_isRow_13 : decode cX11_isRow 13 = .ok (.iconst 0, 1) := by decide +kernel
theorem dX11_isRow_14 : decode cX11_isRow 14 = .ok (.istore_n 2, 1) := by decide +kernel
theorem dX11_isRow_15 : decode cX11_isRow 15 = .ok (.iload_n 2, 1) := by decide +kernel
theorem dX11_isRow_16 : decode cX11_isRow 16 = .ok (.aload_n 0, 1) := by decide +kernel
theorem dX11_isRow_17 : decode cX11_isRow 17 = .ok (.getfield 181, 3) := by decide +kernel
theorem dX11_isRow_20 : decode cX11_isRow 20 = .ok (.if_icmp .ge 31, 3) := by decide +kernel
theorem dX11_isRow_23 : decode cX11_isRow 23 = .ok (.iload_n 1, 1) := by decide +kernel
theorem dX11_isRow_24 : decode cX11_isRow 24 = .ok (.ifCond .eq 19, 3) := by decide +kernel
theorem dX11_isRow_27 : decode cX11_isRow 27 = .ok (.aload_n 0, 1) := by decide +kernel
theorem dX11_isRow_28 : decode cX11_isRow 28 = .ok (.getfield 67, 3) := by decide +kernel
theorem dX11_isRow_31 : decode cX11_isRow 31 = .ok (.iload_n 2, 1) := by decide +kernel
theorem dX11_isRow_32 : decode cX11_isRow 32 = .ok (.baload, 1) := by decide +kernel
theorem dX11_isRow_33 : decode cX11_isRow 33 = .ok (.invokestatic 124, 3) := by decide +kernel
theorem dX11_isRow_36 : decode cX11_isRow 36 = .ok (.ifCond .eq 7, 3) := by decide +kernel
theorem dX11_isRow_39 : decode cX11_isRow 39 = .ok (.iconst 1, 1) := by decide +kernel
theorem dX11_isRow_40 : decode cX11_isRow 40 = .ok (.goto 4, 3) := by decide +kernel
