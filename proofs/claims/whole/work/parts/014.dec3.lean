theorem dX11_init_0 : decode cX11_init 0 = .ok (.aload_n 0, 1) := by decide +kernel
theorem dX11_init_1 : decode cX11_init 1 = .ok (.invokespecial 1, 3) := by decide +kernel
theorem dX11_init_4 : decode cX11_init 4 = .ok (.aload_n 0, 1) := by decide +kernel
theorem dX11_init_5 : decode cX11_init 5 = .ok (.sipush 600, 3) := by decide +kernel
theorem dX11_init_8 : decode cX11_init 8 = .ok (.newarray .int, 2) := by decide +kernel
theorem dX11_init_10 : decode cX11_init 10 = .ok (.putfield 7, 3) := by decide +kernel
theorem dX11_init_13 : decode cX11_init 13 = .ok (.aload_n 0, 1) := by decide +kernel
theorem dX11_init_14 : decode cX11_init 14 = .ok (.bipush 10, 2) := by decide +kernel
theorem dX11_init_16 : decode cX11_init 16 = .ok (.newarray .int, 2) := by decide +kernel
theorem dX11_init_18 : decode cX11_init 18 = .ok (.putfield 13, 3) := by decide +kernel
theorem dX11_init_21 : decode cX11_init 21 = .ok (.aload_n 0, 1) := by decide +kernel
theorem dX11_init_22 : decode cX11_init 22 = .ok (.bipush 77, 2) := by decide +kernel
theorem dX11_init_24 : decode cX11_init 24 = .ok (.newarray .int, 2) := by decide +kernel
theorem dX11_init_26 : decode cX11_init 26 = .ok (.putfield 16, 3) := by decide +kernel
theorem dX11_init_29 : decode cX11_init 29 = .ok (.aload_n 0, 1) := by decide +kernel
theorem dX11_init_30 : decode cX11_init 30 = .ok (.iconst (-1), 1) := by decide +kernel
theorem dX11_init_31 : decode cX11_init 31 = .ok (.putfield 19, 3) := by decide +kernel
theorem dX11_init_34 : decode cX11_init 34 = .ok (.aload_n 0, 1) := by decide +kernel
theorem dX11_init_35 : decode cX11_init 35 = .ok (.bipush 17, 2) := by decide +kernel
theorem dX11_init_37 : decode cX11_init 37 = .ok (.newarray .int, 2) := by decide +kernel
theorem dX11_init_39 : decode cX11_init 39 = .ok (.putfield 23, 3) := by decide +kernel
theorem dX11_init_42 : decode cX11_init 42 = .ok (.aload_n 0, 1) := by decide +kernel
theorem dX11_init_43 : decode cX11_init 43 = .ok (.bipush 17, 2) := by decide +kernel
theorem dX11_init_45 : decode cX11_init 45 = .ok (.newarray .int, 2) := by decide +kernel
theorem dX11_init_47 : decode cX11_init 47 = .ok (.putfield 26, 3) := by decide +kernel
theorem dX11_init_50 : decode cX11_init 50 = .ok (.aload_n 0, 1) := by decide +kernel
theorem dX11_init_51 : decode cX11_init 51 = .ok (.bipush 17, 2) := by decide +kernel
theorem dX11_init_53 : decode cX11_init 53 = .ok (.newarray .int, 2) := by decide +kernel
theorem dX11_init_55 : decode cX11_init 55 = .ok (.putfield 29, 3) := by decide +kernel
theorem dX11_init_58 : decode cX11_init 58 = .ok (.aload_n 0, 1) := by decide +kernel
theorem dX11_init_59 : decode cX11_init 59 = .ok (.bipush 17, 2) := by decide +kernel
theorem dX11_init_61 : decode cX11_init 61 = .ok (.newarray .int, 2) := by decide +kernel
theorem dX11_init_63 : decode cX11_init 63 = .ok (.putfield 32, 3) := by decide +kernel
theorem dX11_init_66 : decode cX11_init 66 = .ok (.aload_n 0, 1) := by decide +kernel
theorem dX11_init_67 : decode cX11_init 67 = .ok (.bipush 17, 2) := by decide +kernel
theorem dX11_init_69 : decode cX11_init 69 = .ok (.newarray .int, 2) := by decide +kernel
theorem dX11_init_71 : decode cX11_init 71 = .ok (.putfield 35, 3) := by decide +kernel
theorem dX11_init_74 : decode cX11_init 74 = .ok (.aload_n 0, 1) := by decide +kernel
theorem dX11_init_75 : decode cX11_init 75 = .ok (.bipush 17, 2) := by decide +kernel
theorem dX11_init_77 : decode cX11_init 77 = .ok (.newarray .boolean, 2) := by decide +kernel
theorem dX11_init_79 : decode cX11_init 79 = .ok (.putfield 38, 3) := by decide +kernel
theorem dX11_init_82 : decode cX11_init 82 = .ok (.aload_n 0, 1) := by decide +kernel
theorem dX11_init_83 : decode cX11_init 83 = .ok (.bipush 17, 2) := by decide +kernel
theorem dX11_init_85 : decode cX11_init 85 = .ok (.newarray .int, 2) := by decide +kernel
theorem dX11_init_87 : decode cX11_init 87 = .ok (.putfield 42, 3) := by decide +kernel
theorem dX11_init_90 : decode cX11_init 90 = .ok (.aload_n 0, 1) := by decide +kernel
theorem dX11_init_91 : decode cX11_init 91 = .ok (.bipush 17, 2) := by decide +kernel
theorem dX11_init_93 : decode cX11_init 93 = .ok (.newarray .int, 2) := by decide +kernel
theorem dX11_init_95 : decode cX11_init 95 = .ok (.putfield 45, 3) := by decide +kernel
theorem dX11_init_98 : decode cX11_init 98 = .ok (.aload_n 0, 1) := by decide +kernel
theorem dX11_init_99 : decode cX11_init 99 = .ok (.bipush 16, 2) := by decide +kernel
theorem dX11_init_101 : decode cX11_init 101 = .ok (.newarray .int, 2) := by decide +kernel
theorem dX11_init_103 : decode cX11_init 103 = .ok (.putfield 48, 3) := by decide +kernel
theorem dX11_init_106 : decode cX11_init 106 = .ok (.aload_n 0, 1) := by decide +kernel
theorem dX11_init_107 : decode cX11_init 107 = .ok (.bipush 16, 2) := by decide +kernel
theorem dX11_init_109 : decode cX11_init 109 = .ok (.newarray .boolean, 2) := by decide +kernel
theorem dX11_init_111 : decode cX11_init 111 = .ok (.putfield 51, 3) := by decide +kernel
theorem dX11_init_114 : decode cX11_init 114 = .ok (.aload_n 0, 1) := by decide +kernel
theorem dX11_init_115 : decode cX11_init 115 = .ok (.bipush 10, 2) := by decide +kernel
theorem dX11_init_117 : decode cX11_init 117 = .ok (.newarray .int, 2) := by decide +kernel
theorem dX11_init_119 : decode cX11_init 119 = .ok (.putfield 54, 3) := by decide +kernel
theorem dX11_init_122 : decode cX11_init 122 = .ok (.aload_n 0, 1) := by decide +kernel
theorem dX11_init_123 : decode cX11_init 123 = .ok (.bipush 10, 2) := by decide +kernel
theorem dX11_init_125 : decode cX11_init 125 = .ok (.newarray .int, 2) := by decide +kernel
theorem dX11_init_127 : decode cX11_init 127 = .ok (.putfield 57, 3) := by decide +kernel
theorem dX11_init_130 : decode cX11_init 130 = .ok (.aload_n 0, 1) := by decide +kernel
theorem dX11_init_131 : decode cX11_init 131 = .ok (.bipush 10, 2) := by decide +kernel
theorem dX11_init_133 : decode cX11_init 133 = .ok (.newarray .int, 2) := by decide +kernel
theorem dX11_init_135 : decode cX11_init 135 = .ok (.putfield 60, 3) := by decide +kernel
theorem dX11_init_138 : decode cX11_init 138 = .ok (.aload_n 0, 1) := by decide +kernel
theorem dX11_init_139 : decode cX11_init 139 = .ok (.bipush 20, 2) := by decide +kernel
theorem dX11_init_141 : decode cX11_init 141 = .ok (.putfield 63, 3) := by decide +kernel
theorem dX11_init_144 : decode cX11_init 144 = .ok (.aload_n 0, 1) := by decide +kernel
theorem dX11_init_145 : decode cX11_init 145 = .ok (.bipush 60, 2) := by decide +kernel
theorem dX11_init_147 : decode cX11_init 147 = .ok (.newarray .boolean, 2) := by decide +kernel
theorem dX11_init_149 : decode cX11_init 149 = .ok (.putfield 66, 3) := by decide +kernel
theorem dX11_init_152 : decode cX11_init 152 = .ok (.aload_n 0, 1) := by decide +kernel
theorem dX11_init_153 : decode cX11_init 153 = .ok (.bipush 17, 2) := by decide +kernel
theorem dX11_init_155 : decode cX11_init 155 = .ok (.newarray .int, 2) := by decide +kernel
theorem dX11_init_157 : decode cX11_init 157 = .ok (.putfield 69, 3) := by decide +kernel
theorem dX11_init_160 : decode cX11_init 160 = .ok (.aload_n 0, 1) := by decide +kernel
theorem dX11_init_161 : decode cX11_init 161 = .ok (.bipush 17, 2) := by decide +kernel
theorem dX11_init_163 : decode cX11_init 163 = .ok (.newarray .int, 2) := by decide +kernel
theorem dX11_init_165 : decode cX11_init 165 = .ok (.putfield 72, 3) := by decide +kernel
theorem dX11_init_168 : decode cX11_init 168 = .ok (.aload_n 0, 1) := by decide +kernel
theorem dX11_init_169 : decode cX11_init 169 = .ok (.bipush 17, 2) := by decide +kernel
theorem dX11_init_171 : decode cX11_init 171 = .ok (.newarray .int, 2) := by decide +kernel
theorem dX11_init_173 : decode cX11_init 173 = .ok (.putfield 75, 3) := by decide +kernel
theorem dX11_init_176 : decode cX11_init 176 = .ok (.aload_n 0, 1) := by decide +kernel
theorem dX11_init_177 : decode cX11_init 177 = .ok (.bipush 17, 2) := by decide +kernel
theorem dX11_init_179 : decode cX11_init 179 = .ok (.newarray .boolean, 2) := by decide +kernel
theorem dX11_init_181 : decode cX11_init 181 = .ok (.putfield 78, 3) := by decide +kernel
theorem dX11_init_184 : decode cX11_init 184 = .ok (.aload_n 0, 1) := by decide +kernel
theorem dX11_init_185 : decode cX11_init 185 = .ok (.bipush 17, 2) := by decide +kernel
theorem dX11_init_187 : decode cX11_init 187 = .ok (.newarray .int, 2) := by decide +kernel
theorem dX11_init_189 : decode cX11_init 189 = .ok (.putfield 81, 3) := by decide +kernel
theorem dX11_init_192 : decode cX11_init 192 = .ok (.aload_n 0, 1) := by decide +kernel
theorem dX11_init_193 : decode cX11_init 193 = .ok (.bipush 17, 2) := by decide +kernel
theorem dX11_init_195 : decode cX11_init 195 = .ok (.newarray .int, 2) := by decide +kernel
theorem dX11_init_197 : decode cX11_init 197 = .ok (.putfield 84, 3) := by decide +kernel
theorem dX11_init_200 : decode cX11_init 200 = .ok (.aload_n 0, 1) := by decide +kernel
theorem dX11_init_201 : decode cX11_init 201 = .ok (.iconst (-1), 1) := by decide +kernel
theorem dX11_init_202 : decode cX11_init 202 = .ok (.putfield 87, 3) := by decide +kernel
theorem dX11_init_205 : decode cX11_init 205 = .ok (.aload_n 0, 1) := by decide +kernel
theorem dX11_init_206 : decode cX11_init 206 = .ok (.bipush 17, 2) := by decide +kernel
theorem dX11_init_208 : decode cX11_init 208 = .ok (.newarray .int, 2) := by decide +kernel
theorem dX11_init_210 : decode cX11_init 210 = .ok (.putfield 90, 3) := by decide +kernel
theorem dX11_init_213 : decode cX11_init 213 = .ok (.aload_n 0, 1) := by decide +kernel
theorem dX11_init_214 : decode cX11_init 214 = .ok (.bipush 40, 2) := by decide +kernel
theorem dX11_init_216 : decode cX11_init 216 = .ok (.newarray .int, 2) := by decide +kernel
theorem dX11_init_218 : decode cX11_init 218 = .ok (.putfield 93, 3) := by decide +kernel
theorem dX11_init_221 : decode cX11_init 221 = .ok (.aload_n 0, 1) := by decide +kernel
theorem dX11_init_222 : decode cX11_init 222 = .ok (.bipush 40, 2) := by decide +kernel
theorem dX11_init_224 : decode cX11_init 224 = .ok (.newarray .int, 2) := by decide +kernel
theorem dX11_init_226 : decode cX11_init 226 = .ok (.putfield 96, 3) := by decide +kernel
theorem dX11_init_229 : decode cX11_init 229 = .ok (.aload_n 0, 1) := by decide +kernel
theorem dX11_init_230 : decode cX11_init 230 = .ok (.bipush 40, 2) := by decide +kernel
theorem dX11_init_232 : decode cX11_init 232 = .ok (.newarray .int, 2) := by decide +kernel
theorem dX11_init_234 : decode cX11_init 234 = .ok (.putfield 99, 3) := by decide +kernel
theorem dX11_init_237 : decode cX11_init 237 = .ok (.iconst 0, 1) := by decide +kernel
theorem dX11_init_238 : decode cX11_init 238 = .ok (.istore_n 1, 1) := by decide +kernel
theorem dX11_init_239 : decode cX11_init 239 = .ok (.iload_n 1, 1) := by decide +kernel
theorem dX11_init_240 : decode cX11_init 240 = .ok (.bipush 17, 2) := by decide +kernel
theorem dX11_init_242 : decode cX11_init 242 = .ok (.if_icmp .ge 23, 3) := by decide +kernel
theorem dX11_init_245 : decode cX11_init 245 = .ok (.aload_n 0, 1) := by decide +kernel
theorem dX11_init_246 : decode cX11_init 246 = .ok (.getfield 23, 3) := by decide +kernel
theorem dX11_init_249 : decode cX11_init 249 = .ok (.iload_n 1, 1) := by decide +kernel
theorem dX11_init_250 : decode cX11_init 250 = .ok (.iconst (-1), 1) := by decide +kernel
theorem dX11_init_251 : decode cX11_init 251 = .ok (.iastore, 1) := by decide +kernel
theorem dX11_init_252 : decode cX11_init 252 = .ok (.aload_n 0, 1) := by decide +kernel
theorem dX11_init_253 : decode cX11_init 253 = .ok (.getfield 26, 3) := by decide +kernel
theorem dX11_init_256 : decode cX11_init 256 = .ok (.iload_n 1, 1) := by decide +kernel
theorem dX11_init_257 : decode cX11_init 257 = .ok (.iconst (-1), 1) := by decide +kernel
theorem dX11_init_258 : decode cX11_init 258 = .ok (.iastore, 1) := by decide +kernel
theorem dX11_init_259 : decode cX11_init 259 = .ok (.iinc 1 1, 3) := by decide +kernel
theorem dX11_init_262 : decode cX11_init 262 = .ok (.goto (-23), 3) := by decide +kernel
theorem dX11_init_265 : decode cX11_init 265 = .ok (.return_, 1) := by decide +kernel
theorem dX11_feed_0 : decode cX11_feed 0 = .ok (.aload_n 0, 1) := by decide +kernel
theorem dX11_feed_1 : decode cX11_feed 1 = .ok (.iconst 0, 1) := by decide +kernel
theorem dX11_feed_2 : decode cX11_feed 2 = .ok (.putfield 102, 3) := by decide +kernel
theorem dX11_feed_5 : decode cX11_feed 5 = .ok (.aload_n 0, 1) := by decide +kernel
theorem dX11_feed_6 : decode cX11_feed 6 = .ok (.getfield 105, 3) := by decide +kernel
theorem dX11_feed_9 : decode cX11_feed 9 = .ok (.sipush 580, 3) := by decide +kernel
theorem dX11_feed_12 : decode cX11_feed 12 = .ok (.if_icmp .le 5, 3) := by decide +kernel
theorem dX11_feed_15 : decode cX11_feed 15 = .ok (.iconst (-1), 1) := by decide +kernel
theorem dX11_feed_16 : decode cX11_feed 16 = .ok (.ireturn, 1) := by decide +kernel
theorem dX11_feed_17 : decode cX11_feed 17 = .ok (.iconst 0, 1) := by decide +kernel
theorem dX11_feed_18 : decode cX11_feed 18 = .ok (.istore 6, 2) := by decide +kernel
theorem dX11_feed_20 : decode cX11_feed 20 = .ok (.iload 6, 2) := by decide +kernel
theorem dX11_feed_22 : decode cX11_feed 22 = .ok (.bipush 20, 2) := by decide +kernel
theorem dX11_feed_24 : decode cX11_feed 24 = .ok (.if_icmp .ge 86, 3) := by decide +kernel
theorem dX11_feed_27 : decode cX11_feed 27 = .ok (.iload 6, 2) := by decide +kernel
theorem dX11_feed_29 : decode cX11_feed 29 = .ok (.iconst 4, 1) := by decide +kernel
theorem dX11_feed_30 : decode cX11_feed 30 = .ok (.if_icmp .ge 7, 3) := by decide +kernel
theorem dX11_feed_33 : decode cX11_feed 33 = .ok (.iload_n 1, 1) := by decide +kernel
theorem dX11_feed_34 : decode cX11_feed 34 = .ok (.goto 39, 3) := by decide +kernel
theorem dX11_feed_37 : decode cX11_feed 37 = .ok (.iload 6, 2) := by decide +kernel
theorem dX11_feed_39 : decode cX11_feed 39 = .ok (.bipush 8, 2) := by decide +kernel
theorem dX11_feed_41 : decode cX11_feed 41 = .ok (.if_icmp .ge 7, 3) := by decide +kernel
theorem dX11_feed_44 : decode cX11_feed 44 = .ok (.iload_n 2, 1) := by decide +kernel
theorem dX11_feed_45 : decode cX11_feed 45 = .ok (.goto 28, 3) := by decide +kernel
theorem dX11_feed_48 : decode cX11_feed 48 = .ok (.iload 6, 2) := by decide +kernel
theorem dX11_feed_50 : decode cX11_feed 50 = .ok (.bipush 12, 2) := by decide +kernel
theorem dX11_feed_52 : decode cX11_feed 52 = .ok (.if_icmp .ge 7, 3) := by decide +kernel
theorem dX11_feed_55 : decode cX11_feed 55 = .ok (.iload_n 3, 1) := by decide +kernel
theorem dX11_feed_56 : decode cX11_feed 56 = .ok (.goto 17, 3) := by decide +kernel
theorem dX11_feed_59 : decode cX11_feed 59 = .ok (.iload 6, 2) := by decide +kernel
theorem dX11_feed_61 : decode cX11_feed 61 = .ok (.bipush 16, 2) := by decide +kernel
theorem dX11_feed_63 : decode cX11_feed 63 = .ok (.if_icmp .ge 8, 3) := by decide +kernel
theorem dX11_feed_66 : decode cX11_feed 66 = .ok (.iload 4, 2) := by decide +kernel
theorem dX11_feed_68 : decode cX11_feed 68 = .ok (.goto 5, 3) := by decide +kernel
theorem dX11_feed_71 : decode cX11_feed 71 = .ok (.iload 5, 2) := by decide +kernel
theorem dX11_feed_73 : decode cX11_feed 73 = .ok (.istore 7, 2) := by decide +kernel
theorem dX11_feed_75 : decode cX11_feed 75 = .ok (.aload_n 0, 1) := by decide +kernel
theorem dX11_feed_76 : decode cX11_feed 76 = .ok (.getfield 7, 3) := by decide +kernel
theorem dX11_feed_79 : decode cX11_feed 79 = .ok (.aload_n 0, 1) := by decide +kernel
theorem dX11_feed_80 : decode cX11_feed 80 = .ok (.getfield 105, 3) := by decide +kernel
theorem dX11_feed_83 : decode cX11_feed 83 = .ok (.iload 6, 2) := by decide +kernel
theorem dX11_feed_85 : decode cX11_feed 85 = .ok (.iadd, 1) := by decide +kernel
theorem dX11_feed_86 : decode cX11_feed 86 = .ok (.iload 7, 2) := by decide +kernel
theorem dX11_feed_88 : decode cX11_feed 88 = .ok (.bipush 24, 2) := by decide +kernel
theorem dX11_feed_90 : decode cX11_feed 90 = .ok (.bipush 8, 2) := by decide +kernel
theorem dX11_feed_92 : decode cX11_feed 92 = .ok (.iload 6, 2) := by decide +kernel
theorem dX11_feed_94 : decode cX11_feed 94 = .ok (.iconst 4, 1) := by decide +kernel
theorem dX11_feed_95 : decode cX11_feed 95 = .ok (.irem, 1) := by decide +kernel
theorem dX11_feed_96 : decode cX11_feed 96 = .ok (.imul, 1) := by decide +kernel
theorem dX11_feed_97 : decode cX11_feed 97 = .ok (.isub, 1) := by decide +kernel
theorem dX11_feed_98 : decode cX11_feed 98 = .ok (.ishr, 1) := by decide +kernel
theorem dX11_feed_99 : decode cX11_feed 99 = .ok (.sipush 255, 3) := by decide +kernel
theorem dX11_feed_102 : decode cX11_feed 102 = .ok (.iand, 1) := by decide +kernel
theorem dX11_feed_103 : decode cX11_feed 103 = .ok (.iastore, 1) := by decide +kernel
theorem dX11_feed_104 : decode cX11_feed 104 = .ok (.iinc 6 1, 3) := by decide +kernel
theorem dX11_feed_107 : decode cX11_feed 107 = .ok (.goto (-87), 3) := by decide +kernel
theorem dX11_feed_110 : decode cX11_feed 110 = .ok (.aload_n 0, 1) := by decide +kernel
theorem dX11_feed_111 : decode cX11_feed 111 = .ok (.dup, 1) := by decide +kernel
theorem dX11_feed_112 : decode cX11_feed 112 = .ok (.getfield 105, 3) := by decide +kernel
theorem dX11_feed_115 : decode cX11_feed 115 = .ok (.bipush 20, 2) := by decide +kernel
theorem dX11_feed_117 : decode cX11_feed 117 = .ok (.iadd, 1) := by decide +kernel
theorem dX11_feed_118 : decode cX11_feed 118 = .ok (.putfield 105, 3) := by decide +kernel
theorem dX11_feed_121 : decode cX11_feed 121 = .ok (.aload_n 0, 1) := by decide +kernel
theorem dX11_feed_122 : decode cX11_feed 122 = .ok (.getfield 105, 3) := by decide +kernel
theorem dX11_feed_125 : decode cX11_feed 125 = .ok (.ireturn, 1) := by decide +kernel
theorem dX11_here_0 : decode cX11_here 0 = .ok (.aload_n 0, 1) := by decide +kernel
theorem dX11_here_1 : decode cX11_here 1 = .ok (.getfield 108, 3) := by decide +kernel
theorem dX11_here_4 : decode cX11_here 4 = .ok (.aload_n 0, 1) := by decide +kernel
theorem dX11_here_5 : decode cX11_here 5 = .ok (.getfield 111, 3) := by decide +kernel
theorem dX11_here_8 : decode cX11_here 8 = .ok (.if_icmp .ge 15, 3) := by decide +kernel
theorem dX11_here_11 : decode cX11_here 11 = .ok (.aload_n 0, 1) := by decide +kernel
theorem dX11_here_12 : decode cX11_here 12 = .ok (.getfield 7, 3) := by decide +kernel
theorem dX11_here_15 : decode cX11_here 15 = .ok (.aload_n 0, 1) := by decide +kernel
theorem dX11_here_16 : decode cX11_here 16 = .ok (.getfield 108, 3) := by decide +kernel
theorem dX11_here_19 : decode cX11_here 19 = .ok (.iaload, 1) := by decide +kernel
theorem dX11_here_20 : decode cX11_here 20 = .ok (.goto 4, 3) := by decide +kernel
theorem dX11_here_23 : decode cX11_here 23 = .ok (.iconst (-1), 1) := by decide +kernel
theorem dX11_here_24 : decode cX11_here 24 = .ok (.ireturn, 1) := by decide +kernel
theorem dX11_isSmall_0 : decode cX11_isSmall 0 = .ok (.iload_n 0, 1) := by decide +kernel
theorem dX11_isSmall_1 : decode cX11_isSmall 1 = .ok (.bipush 97, 2) := by decide +kernel
theorem dX11_isSmall_3 : decode cX11_isSmall 3 = .ok (.if_icmp .lt 13, 3) := by decide +kernel
theorem dX11_isSmall_6 : decode cX11_isSmall 6 = .ok (.iload_n 0, 1) := by decide +kernel
theorem dX11_isSmall_7 : decode cX11_isSmall 7 = .ok (.bipush 122, 2) := by decide +kernel
theorem dX11_isSmall_9 : decode cX11_isSmall 9 = .ok (.if_icmp .gt 7, 3) := by decide +kernel
theorem dX11_isSmall_12 : decode cX11_isSmall 12 = .ok (.iconst 1, 1) := by decide +kernel
theorem dX11_isSmall_13 : decode cX11_isSmall 13 = .ok (.goto 4, 3) := by decide +kernel
theorem dX11_isSmall_16 : decode cX11_isSmall 16 = .ok (.iconst 0, 1) := by decide +kernel
theorem dX11_isSmall_17 : decode cX11_isSmall 17 = .ok (.ireturn, 1) := by decide +kernel
theorem dX11_isDigit_0 : decode cX11_isDigit 0 = .ok (.iload_n 0, 1) := by decide +kernel
theorem dX11_isDigit_1 : decode cX11_isDigit 1 = .ok (.bipush 48, 2) := by decide +kernel
theorem dX11_isDigit_3 : decode cX11_isDigit 3 = .ok (.if_icmp .lt 13, 3) := by decide +kernel
theorem dX11_isDigit_6 : decode cX11_isDigit 6 = .ok (.iload_n 0, 1) := by decide +kernel
theorem dX11_isDigit_7 : decode cX11_isDigit 7 = .ok (.bipush 57, 2) := by decide +kernel
theorem dX11_isDigit_9 : decode cX11_isDigit 9 = .ok (.if_icmp .gt 7, 3) := by decide +kernel
theorem dX11_isDigit_12 : decode cX11_isDigit 12 = .ok (.iconst 1, 1) := by decide +kernel
theorem dX11_isDigit_13 : decode cX11_isDigit 13 = .ok (.goto 4, 3) := by decide +kernel
theorem dX11_isDigit_16 : decode cX11_isDigit 16 = .ok (.iconst 0, 1) := by decide +kernel
theorem dX11_isDigit_17 : decode cX11_isDigit 17 = .ok (.ireturn, 1) := by decide +kernel
theorem dX11_step_0 : decode cX11_step 0 = .ok (.aload_n 0, 1) := by decide +kernel
theorem dX11_step_1 : decode cX11_step 1 = .ok (.invokevirtual 114, 3) := by decide +kernel
theorem dX11_step_4 : decode cX11_step 4 = .ok (.bipush 10, 2) := by decide +kernel
theorem dX11_step_6 : decode cX11_step 6 = .ok (.if_icmp .eq 12, 3) := by decide +kernel
theorem dX11_step_9 : decode cX11_step 9 = .ok (.aload_n 0, 1) := by decide +kernel
theorem dX11_step_10 : decode cX11_step 10 = .ok (.invokevirtual 114, 3) := by decide +kernel
theorem dX11_step_13 : decode cX11_step 13 = .ok (.bipush 32, 2) := by decide +kernel
theorem dX11_step_15 : decode cX11_step 15 = .ok (.if_icmp .ne 16, 3) := by decide +kernel
theorem dX11_step_18 : decode cX11_step 18 = .ok (.aload_n 0, 1) := by decide +kernel
theorem dX11_step_19 : decode cX11_step 19 = .ok (.dup, 1) := by decide +kernel
theorem dX11_step_20 : decode cX11_step 20 = .ok (.getfield 108, 3) := by decide +kernel
theorem dX11_step_23 : decode cX11_step 23 = .ok (.iconst 1, 1) := by decide +kernel
theorem dX11_step_24 : decode cX11_step 24 = .ok (.iadd, 1) := by decide +kernel
theorem dX11_step_25 : decode cX11_step 25 = .ok (.putfield 108, 3) := by decide +kernel
theorem dX11_step_28 : decode cX11_step 28 = .ok (.goto (-28), 3) := by decide +kernel
theorem dX11_step_31 : decode cX11_step 31 = .ok (.aload_n 0, 1) := by decide +kernel
theorem dX11_step_32 : decode cX11_step 32 = .ok (.aload_n 0, 1) := by decide +kernel
theorem dX11_step_33 : decode cX11_step 33 = .ok (.getfield 108, 3) := by decide +kernel
theorem dX11_step_36 : decode cX11_step 36 = .ok (.putfield 118, 3) := by decide +kernel
theorem dX11_step_39 : decode cX11_step 39 = .ok (.aload_n 0, 1) := by decide +kernel
theorem dX11_step_40 : decode cX11_step 40 = .ok (.invokevirtual 114, 3) := by decide +kernel
theorem dX11_step_43 : decode cX11_step 43 = .ok (.istore_n 1, 1) := by decide +kernel
theorem dX11_step_44 : decode cX11_step 44 = .ok (.iload_n 1, 1) := by decide +kernel
theorem dX11_step_45 : decode cX11_step 45 = .ok (.iconst (-1), 1) := by decide +kernel
theorem dX11_step_46 : decode cX11_step 46 = .ok (.if_icmp .ne 11, 3) := by decide +kernel
theorem dX11_step_49 : decode cX11_step 49 = .ok (.aload_n 0, 1) := by decide +kernel
theorem dX11_step_50 : decode cX11_step 50 = .ok (.iconst 3, 1) := by decide +kernel
theorem dX11_step_51 : decode cX11_step 51 = .ok (.putfield 121, 3) := by decide +kernel
theorem dX11_step_54 : decode cX11_step 54 = .ok (.goto 162, 3) := by decide +kernel
theorem dX11_step_57 : decode cX11_step 57 = .ok (.iload_n 1, 1) := by decide +kernel
theorem dX11_step_58 : decode cX11_step 58 = .ok (.invokestatic 124, 3) := by decide +kernel
theorem dX11_step_61 : decode cX11_step 61 = .ok (.ifCond .eq 54, 3) := by decide +kernel
theorem dX11_step_64 : decode cX11_step 64 = .ok (.aload_n 0, 1) := by decide +kernel
theorem dX11_step_65 : decode cX11_step 65 = .ok (.invokevirtual 114, 3) := by decide +kernel
theorem dX11_step_68 : decode cX11_step 68 = .ok (.invokestatic 124, 3) := by decide +kernel
theorem dX11_step_71 : decode cX11_step 71 = .ok (.ifCond .eq 16, 3) := by decide +kernel
theorem dX11_step_74 : decode cX11_step 74 = .ok (.aload_n 0, 1) := by decide +kernel
theorem dX11_step_75 : decode cX11_step 75 = .ok (.dup, 1) := by decide +kernel
theorem dX11_step_76 : decode cX11_step 76 = .ok (.getfield 108, 3) := by decide +kernel
theorem dX11_step_79 : decode cX11_step 79 = .ok (.iconst 1, 1) := by decide +kernel
theorem dX11_step_80 : decode cX11_step 80 = .ok (.iadd, 1) := by decide +kernel
theorem dX11_step_81 : decode cX11_step 81 = .ok (.putfield 108, 3) := by decide +kernel
theorem dX11_step_84 : decode cX11_step 84 = .ok (.goto (-20), 3) := by decide +kernel
theorem dX11_step_87 : decode cX11_step 87 = .ok (.aload_n 0, 1) := by decide +kernel
theorem dX11_step_88 : decode cX11_step 88 = .ok (.aload_n 0, 1) := by decide +kernel
theorem dX11_step_89 : decode cX11_step 89 = .ok (.invokevirtual 128, 3) := by decide +kernel
theorem dX11_step_92 : decode cX11_step 92 = .ok (.putfield 131, 3) := by decide +kernel
theorem dX11_step_95 : decode cX11_step 95 = .ok (.aload_n 0, 1) := by decide +kernel
theorem dX11_step_96 : decode cX11_step 96 = .ok (.aload_n 0, 1) := by decide +kernel
theorem dX11_step_97 : decode cX11_step 97 = .ok (.getfield 131, 3) := by decide +kernel
theorem dX11_step_100 : decode cX11_step 100 = .ok (.iconst (-1), 1) := by decide +kernel
theorem dX11_step_101 : decode cX11_step 101 = .ok (.if_icmp .ne 7, 3) := by decide +kernel
theorem dX11_step_104 : decode cX11_step 104 = .ok (.iconst 4, 1) := by decide +kernel
theorem dX11_step_105 : decode cX11_step 105 = .ok (.goto 4, 3) := by decide +kernel
theorem dX11_step_108 : decode cX11_step 108 = .ok (.iconst 0, 1) := by decide +kernel
theorem dX11_step_109 : decode cX11_step 109 = .ok (.putfield 121, 3) := by decide +kernel
theorem dX11_step_112 : decode cX11_step 112 = .ok (.goto 104, 3) := by decide +kernel
theorem dX11_step_115 : decode cX11_step 115 = .ok (.iload_n 1, 1) := by decide +kernel
theorem dX11_step_116 : decode cX11_step 116 = .ok (.invokestatic 134, 3) := by decide +kernel
theorem dX11_step_119 : decode cX11_step 119 = .ok (.ifCond .eq 72, 3) := by decide +kernel
theorem dX11_step_122 : decode cX11_step 122 = .ok (.aload_n 0, 1) := by decide +kernel
theorem dX11_step_123 : decode cX11_step 123 = .ok (.iconst 1, 1) := by decide +kernel
theorem dX11_step_124 : decode cX11_step 124 = .ok (.putfield 121, 3) := by decide +kernel
theorem dX11_step_127 : decode cX11_step 127 = .ok (.aload_n 0, 1) := by decide +kernel
theorem dX11_step_128 : decode cX11_step 128 = .ok (.iconst 0, 1) := by decide +kernel
theorem dX11_step_129 : decode cX11_step 129 = .ok (.putfield 131, 3) := by decide +kernel
theorem dX11_step_132 : decode cX11_step 132 = .ok (.aload_n 0, 1) := by decide +kernel
theorem dX11_step_133 : decode cX11_step 133 = .ok (.invokevirtual 114, 3) := by decide +kernel
theorem dX11_step_136 : decode cX11_step 136 = .ok (.invokestatic 134, 3) := by decide +kernel
theorem dX11_step_139 : decode cX11_step 139 = .ok (.ifCond .eq 77, 3) := by decide +kernel
theorem dX11_step_142 : decode cX11_step 142 = .ok (.aload_n 0, 1) := by decide +kernel
theorem dX11_step_143 : decode cX11_step 143 = .ok (.aload_n 0, 1) := by decide +kernel
theorem dX11_step_144 : decode cX11_step 144 = .ok (.getfield 131, 3) := by decide +kernel
theorem dX11_step_147 : decode cX11_step 147 = .ok (.sipush 1000, 3) := by decide +kernel
theorem dX11_step_150 : decode cX11_step 150 = .ok (.if_icmp .le 10, 3) := by decide +kernel
theorem dX11_step_153 : decode cX11_step 153 = .ok (.aload_n 0, 1) := by decide +kernel
theorem dX11_step_154 : decode cX11_step 154 = .ok (.getfield 131, 3) := by decide +kernel
theorem dX11_step_157 : decode cX11_step 157 = .ok (.goto 18, 3) := by decide +kernel
theorem dX11_step_160 : decode cX11_step 160 = .ok (.bipush 10, 2) := by decide +kernel
theorem dX11_step_162 : decode cX11_step 162 = .ok (.aload_n 0, 1) := by decide +kernel
theorem dX11_step_163 : decode cX11_step 163 = .ok (.getfield 131, 3) := by decide +kernel
theorem dX11_step_166 : decode cX11_step 166 = .ok (.imul, 1) := by decide +kernel
theorem dX11_step_167 : decode cX11_step 167 = .ok (.aload_n 0, 1) := by decide +kernel
theorem dX11_step_168 : decode cX11_step 168 = .ok (.invokevirtual 114, 3) := by decide +kernel
theorem dX11_step_171 : decode cX11_step 171 = .ok (.iadd, 1) := by decide +kernel
theorem dX11_step_172 : decode cX11_step 172 = .ok (.bipush 48, 2) := by decide +kernel
theorem dX11_step_174 : decode cX11_step 174 = .ok (.isub, 1) := by decide +kernel
theorem dX11_step_175 : decode cX11_step 175 = .ok (.putfield 131, 3) := by decide +kernel
theorem dX11_step_178 : decode cX11_step 178 = .ok (.aload_n 0, 1) := by decide +kernel
theorem dX11_step_179 : decode cX11_step 179 = .ok (.dup, 1) := by decide +kernel
theorem dX11_step_180 : decode cX11_step 180 = .ok (.getfield 108, 3) := by decide +kernel
theorem dX11_step_183 : decode cX11_step 183 = .ok (.iconst 1, 1) := by decide +kernel
theorem dX11_step_184 : decode cX11_step 184 = .ok (.iadd, 1) := by decide +kernel
theorem dX11_step_185 : decode cX11_step 185 = .ok (.putfield 108, 3) := by decide +kernel
theorem dX11_step_188 : decode cX11_step 188 = .ok (.goto (-56), 3) := by decide +kernel
theorem dX11_step_191 : decode cX11_step 191 = .ok (.aload_n 0, 1) := by decide +kernel
theorem dX11_step_192 : decode cX11_step 192 = .ok (.dup, 1) := by decide +kernel
theorem dX11_step_193 : decode cX11_step 193 = .ok (.getfield 108, 3) := by decide +kernel
theorem dX11_step_196 : decode cX11_step 196 = .ok (.iconst 1, 1) := by decide +kernel
theorem dX11_step_197 : decode cX11_step 197 = .ok (.iadd, 1) := by decide +kernel
theorem dX11_step_198 : decode cX11_step 198 = .ok (.putfield 108, 3) := by decide +kernel
theorem dX11_step_201 : decode cX11_step 201 = .ok (.aload_n 0, 1) := by decide +kernel
theorem dX11_step_202 : decode cX11_step 202 = .ok (.iload_n 1, 1) := by decide +kernel
theorem dX11_step_203 : decode cX11_step 203 = .ok (.bipush 59, 2) := by decide +kernel
theorem dX11_step_205 : decode cX11_step 205 = .ok (.if_icmp .ne 7, 3) := by decide +kernel
theorem dX11_step_208 : decode cX11_step 208 = .ok (.iconst 2, 1) := by decide +kernel
theorem dX11_step_209 : decode cX11_step 209 = .ok (.goto 4, 3) := by decide +kernel
theorem dX11_step_212 : decode cX11_step 212 = .ok (.iconst 4, 1) := by decide +kernel
theorem dX11_step_213 : decode cX11_step 213 = .ok (.putfield 121, 3) := by decide +kernel
theorem dX11_step_216 : decode cX11_step 216 = .ok (.return_, 1) := by decide +kernel
theorem dX11_wordOf_0 : decode cX11_wordOf 0 = .ok (.iconst 0, 1) := by decide +kernel
theorem dX11_wordOf_1 : decode cX11_wordOf 1 = .ok (.istore_n 1, 1) := by decide +kernel
theorem dX11_wordOf_2 : decode cX11_wordOf 2 = .ok (.iconst 0, 1) := by decide +kernel
theorem dX11_wordOf_3 : decode cX11_wordOf 3 = .ok (.istore_n 2, 1) := by decide +kernel
theorem dX11_wordOf_4 : decode cX11_wordOf 4 = .ok (.iload_n 2, 1) := by decide +kernel
theorem dX11_wordOf_5 : decode cX11_wordOf 5 = .ok (.ldc 137, 2) := by decide +kernel
theorem dX11_wordOf_7 : decode cX11_wordOf 7 = .ok (.invokevirtual 139, 3) := by decide +kernel
theorem dX11_wordOf_10 : decode cX11_wordOf 10 = .ok (.if_icmp .ge 113, 3) := by decide +kernel
theorem dX11_wordOf_13 : decode cX11_wordOf 13 = .ok (.iconst 0, 1) := by decide +kernel
theorem dX11_wordOf_14 : decode cX11_wordOf 14 = .ok (.istore_n 3, 1) := by decide +kernel
theorem dX11_wordOf_15 : decode cX11_wordOf 15 = .ok (.ldc 137, 2) := by decide +kernel
theorem dX11_wordOf_17 : decode cX11_wordOf 17 = .ok (.iload_n 2, 1) := by decide +kernel
theorem dX11_wordOf_18 : decode cX11_wordOf 18 = .ok (.iload_n 3, 1) := by decide +kernel
theorem dX11_wordOf_19 : decode cX11_wordOf 19 = .ok (.iadd, 1) := by decide +kernel
theorem dX11_wordOf_20 : decode cX11_wordOf 20 = .ok (.invokevirtual 143, 3) := by decide +kernel
theorem dX11_wordOf_23 : decode cX11_wordOf 23 = .ok (.bipush 32, 2) := by decide +kernel
theorem dX11_wordOf_25 : decode cX11_wordOf 25 = .ok (.if_icmp .eq 44, 3) := by decide +kernel
theorem dX11_wordOf_28 : decode cX11_wordOf 28 = .ok (.aload_n 0, 1) := by decide +kernel
theorem dX11_wordOf_29 : decode cX11_wordOf 29 = .ok (.getfield 118, 3) := by decide +kernel
theorem dX11_wordOf_32 : decode cX11_wordOf 32 = .ok (.iload_n 3, 1) := by decide +kernel
theorem dX11_wordOf_33 : decode cX11_wordOf 33 = .ok (.iadd, 1) := by decide +kernel
theorem dX11_wordOf_34 : decode cX11_wordOf 34 = .ok (.aload_n 0, 1) := by decide +kernel
theorem dX11_wordOf_35 : decode cX11_wordOf 35 = .ok (.getfield 108, 3) := by decide +kernel
theorem dX11_wordOf_38 : decode cX11_wordOf 38 = .ok (.if_icmp .ge 31, 3) := by decide +kernel
theorem dX11_wordOf_41 : decode cX11_wordOf 41 = .ok (.aload_n 0, 1) := by decide +kernel
theorem dX11_wordOf_42 : decode cX11_wordOf 42 = .ok (.getfield 7, 3) := by decide +kernel
theorem dX11_wordOf_45 : decode cX11_wordOf 45 = .ok (.aload_n 0, 1) := by decide +kernel
theorem dX11_wordOf_46 : decode cX11_wordOf 46 = .ok (.getfield 118, 3) := by decide +kernel
theorem dX11_wordOf_49 : decode cX11_wordOf 49 = .ok (.iload_n 3, 1) := by decide +kernel
theorem dX11_wordOf_50 : decode cX11_wordOf 50 = .ok (.iadd, 1) := by decide +kernel
theorem dX11_wordOf_51 : decode cX11_wordOf 51 = .ok (.iaload, 1) := by decide +kernel
theorem dX11_wordOf_52 : decode cX11_wordOf 52 = .ok (.ldc 137, 2) := by decide +kernel
theorem dX11_wordOf_54 : decode cX11_wordOf 54 = .ok (.iload_n 2, 1) := by decide +kernel
theorem dX11_wordOf_55 : decode cX11_wordOf 55 = .ok (.iload_n 3, 1) := by decide +kernel
theorem dX11_wordOf_56 : decode cX11_wordOf 56 = .ok (.iadd, 1) := by decide +kernel
theorem dX11_wordOf_57 : decode cX11_wordOf 57 = .ok (.invokevirtual 143, 3) := by decide +kernel
theorem dX11_wordOf_60 : decode cX11_wordOf 60 = .ok (.if_icmp .ne 9, 3) := by decide +kernel
theorem dX11_wordOf_63 : decode cX11_wordOf 63 = .ok (.iinc 3 1, 3) := by decide +kernel
theorem dX11_wordOf_66 : decode cX11_wordOf 66 = .ok (.goto (-51), 3) := by decide +kernel
theorem dX11_wordOf_69 : decode cX11_wordOf 69 = .ok (.ldc 137, 2) := by decide +kernel
theorem dX11_wordOf_71 : decode cX11_wordOf 71 = .ok (.iload_n 2, 1) := by decide +kernel
theorem dX11_wordOf_72 : decode cX11_wordOf 72 = .ok (.iload_n 3, 1) := by decide +kernel
theorem dX11_wordOf_73 : decode cX11_wordOf 73 = .ok (.iadd, 1) := by decide +kernel
theorem dX11_wordOf_74 : decode cX11_wordOf 74 = .ok (.invokevirtual 143, 3) := by decide +kernel
theorem dX11_wordOf_77 : decode cX11_wordOf 77 = .ok (.bipush 32, 2) := by decide +kernel
theorem dX11_wordOf_79 : decode cX11_wordOf 79 = .ok (.if_icmp .ne 18, 3) := by decide +kernel
theorem dX11_wordOf_82 : decode cX11_wordOf 82 = .ok (.aload_n 0, 1) := by decide +kernel
theorem dX11_wordOf_83 : decode cX11_wordOf 83 = .ok (.getfield 118, 3) := by decide +kernel
theorem dX11_wordOf_86 : decode cX11_wordOf 86 = .ok (.iload_n 3, 1) := by decide +kernel
theorem dX11_wordOf_87 : decode cX11_wordOf 87 = .ok (.iadd, 1) := by decide +kernel
theorem dX11_wordOf_88 : decode cX11_wordOf 88 = .ok (.aload_n 0, 1) := by decide +kernel
theorem dX11_wordOf_89 : decode cX11_wordOf 89 = .ok (.getfield 108, 3) := by decide +kernel
theorem dX11_wordOf_92 : decode cX11_wordOf 92 = .ok (.if_icmp .ne 5, 3) := by decide +kernel
theorem dX11_wordOf_95 : decode cX11_wordOf 95 = .ok (.iload_n 1, 1) := by decide +kernel
theorem dX11_wordOf_96 : decode cX11_wordOf 96 = .ok (.ireturn, 1) := by decide +kernel
theorem dX11_wordOf_97 : decode cX11_wordOf 97 = .ok (.ldc 137, 2) := by decide +kernel
theorem dX11_wordOf_99 : decode cX11_wordOf 99 = .ok (.iload_n 2, 1) := by decide +kernel
theorem dX11_wordOf_100 : decode cX11_wordOf 100 = .ok (.invokevirtual 143, 3) := by decide +kernel
theorem dX11_wordOf_103 : decode cX11_wordOf 103 = .ok (.bipush 32, 2) := by decide +kernel
theorem dX11_wordOf_105 : decode cX11_wordOf 105 = .ok (.if_icmp .eq 9, 3) := by decide +kernel
theorem dX11_wordOf_108 : decode cX11_wordOf 108 = .ok (.iinc 2 1, 3) := by decide +kernel
theorem dX11_wordOf_111 : decode cX11_wordOf 111 = .ok (.goto (-14), 3) := by decide +kernel
theorem dX11_wordOf_114 : decode cX11_wordOf 114 = .ok (.iinc 2 1, 3) := by decide +kernel
theorem dX11_wordOf_117 : decode cX11_wordOf 117 = .ok (.iinc 1 1, 3) := by decide +kernel
theorem dX11_wordOf_120 : decode cX11_wordOf 120 = .ok (.goto (-116), 3) := by decide +kernel
theorem dX11_wordOf_123 : decode cX11_wordOf 123 = .ok (.iconst (-1), 1) := by decide +kernel
theorem dX11_wordOf_124 : decode cX11_wordOf 124 = .ok (.ireturn, 1) := by decide +kernel
theorem dX11_wrong_0 : decode cX11_wrong 0 = .ok (.aload_n 0, 1) := by decide +kernel
theorem dX11_wrong_1 : decode cX11_wrong 1 = .ok (.getfield 147, 3) := by decide +kernel
theorem dX11_wrong_4 : decode cX11_wrong 4 = .ok (.ifCond .eq 4, 3) := by decide +kernel
theorem dX11_wrong_7 : decode cX11_wrong 7 = .ok (.return_, 1) := by decide +kernel
theorem dX11_wrong_8 : decode cX11_wrong 8 = .ok (.aload_n 0, 1) := by decide +kernel
theorem dX11_wrong_9 : decode cX11_wrong 9 = .ok (.iload_n 1, 1) := by decide +kernel
theorem dX11_wrong_10 : decode cX11_wrong 10 = .ok (.putfield 147, 3) := by decide +kernel
theorem dX11_wrong_13 : decode cX11_wrong 13 = .ok (.aload_n 0, 1) := by decide +kernel
theorem dX11_wrong_14 : decode cX11_wrong 14 = .ok (.iload_n 2, 1) := by decide +kernel
theorem dX11_wrong_15 : decode cX11_wrong 15 = .ok (.putfield 150, 3) := by decide +kernel
theorem dX11_wrong_18 : decode cX11_wrong 18 = .ok (.return_, 1) := by decide +kernel
theorem dX11_isWithin_0 : decode cX11_isWithin 0 = .ok (.iload_n 0, 1) := by decide +kernel
theorem dX11_isWithin_1 : decode cX11_isWithin 1 = .ok (.tableswitch 92 0 3 #[31, 48, 64, 81], 31) := by decide +kernel
theorem dX11_isWithin_32 : decode cX11_isWithin 32 = .ok (.iload_n 1, 1) := by decide +kernel
theorem dX11_isWithin_33 : decode cX11_isWithin 33 = .ok (.iconst 2, 1) := by decide +kernel
theorem dX11_isWithin_34 : decode cX11_isWithin 34 = .ok (.if_icmp .lt 13, 3) := by decide +kernel
theorem dX11_isWithin_37 : decode cX11_isWithin 37 = .ok (.iload_n 1, 1) := by decide +kernel
theorem dX11_isWithin_38 : decode cX11_isWithin 38 = .ok (.bipush 10, 2) := by decide +kernel
theorem dX11_isWithin_40 : decode cX11_isWithin 40 = .ok (.if_icmp .gt 7, 3) := by decide +kernel
theorem dX11_isWithin_43 : decode cX11_isWithin 43 = .ok (.iconst 1, 1) := by decide +kernel
theorem dX11_isWithin_44 : decode cX11_isWithin 44 = .ok (.goto 4, 3) := by decide +kernel
theorem dX11_isWithin_47 : decode cX11_isWithin 47 = .ok (.iconst 0, 1) := by decide +kernel
theorem dX11_isWithin_48 : decode cX11_isWithin 48 = .ok (.ireturn, 1) := by decide +kernel
theorem dX11_isWithin_49 : decode cX11_isWithin 49 = .ok (.iload_n 1, 1) := by decide +kernel
theorem dX11_isWithin_50 : decode cX11_isWithin 50 = .ok (.iconst 1, 1) := by decide +kernel
theorem dX11_isWithin_51 : decode cX11_isWithin 51 = .ok (.if_icmp .lt 12, 3) := by decide +kernel
theorem dX11_isWithin_54 : decode cX11_isWithin 54 = .ok (.iload_n 1, 1) := by decide +kernel
theorem dX11_isWithin_55 : decode cX11_isWithin 55 = .ok (.iconst 5, 1) := by decide +kernel
theorem dX11_isWithin_56 : decode cX11_isWithin 56 = .ok (.if_icmp .gt 7, 3) := by decide +kernel
theorem dX11_isWithin_59 : decode cX11_isWithin 59 = .ok (.iconst 1, 1) := by decide +kernel
theorem dX11_isWithin_60 : decode cX11_isWithin 60 = .ok (.goto 4, 3) := by decide +kernel
theorem dX11_isWithin_63 : decode cX11_isWithin 63 = .ok (.iconst 0, 1) := by decide +kernel
theorem dX11_isWithin_64 : decode cX11_isWithin 64 = .ok (.ireturn, 1) := by decide +kernel
theorem dX11_isWithin_65 : decode cX11_isWithin 65 = .ok (.iload_n 1, 1) := by decide +kernel
theorem dX11_isWithin_66 : decode cX11_isWithin 66 = .ok (.iconst 1, 1) := by decide +kernel
theorem dX11_isWithin_67 : decode cX11_isWithin 67 = .ok (.if_icmp .lt 13, 3) := by decide +kernel
theorem dX11_isWithin_70 : decode cX11_isWithin 70 = .ok (.iload_n 1, 1) := by decide +kernel
theorem dX11_isWithin_71 : decode cX11_isWithin 71 = .ok (.bipush 9, 2) := by decide +kernel
theorem dX11_isWithin_73 : decode cX11_isWithin 73 = .ok (.if_icmp .gt 7, 3) := by decide +kernel
theorem dX11_isWithin_76 : decode cX11_isWithin 76 = .ok (.iconst 1, 1) := by decide +kernel
theorem dX11_isWithin_77 : decode cX11_isWithin 77 = .ok (.goto 4, 3) := by decide +kernel
theorem dX11_isWithin_80 : decode cX11_isWithin 80 = .ok (.iconst 0, 1) := by decide +kernel
theorem dX11_isWithin_81 : decode cX11_isWithin 81 = .ok (.ireturn, 1) := by decide +kernel
theorem dX11_isWithin_82 : decode cX11_isWithin 82 = .ok (.iload_n 1, 1) := by decide +kernel
theorem dX11_isWithin_83 : decode cX11_isWithin 83 = .ok (.iconst 1, 1) := by decide +kernel
theorem dX11_isWithin_84 : decode cX11_isWithin 84 = .ok (.if_icmp .gt 7, 3) := by decide +kernel
theorem dX11_isWithin_87 : decode cX11_isWithin 87 = .ok (.iconst 1, 1) := by decide +kernel
theorem dX11_isWithin_88 : decode cX11_isWithin 88 = .ok (.goto 4, 3) := by decide +kernel
theorem dX11_isWithin_91 : decode cX11_isWithin 91 = .ok (.iconst 0, 1) := by decide +kernel
theorem dX11_isWithin_92 : decode cX11_isWithin 92 = .ok (.ireturn, 1) := by decide +kernel
theorem dX11_isWithin_93 : decode cX11_isWithin 93 = .ok (.iload_n 1, 1) := by decide +kernel
theorem dX11_isWithin_94 : decode cX11_isWithin 94 = .ok (.bipush 9, 2) := by decide +kernel
theorem dX11_isWithin_96 : decode cX11_isWithin 96 = .ok (.if_icmp .gt 7, 3) := by decide +kernel
theorem dX11_isWithin_99 : decode cX11_isWithin 99 = .ok (.iconst 1, 1) := by decide +kernel
theorem dX11_isWithin_100 : decode cX11_isWithin 100 = .ok (.goto 4, 3) := by decide +kernel
theorem dX11_isWithin_103 : decode cX11_isWithin 103 = .ok (.iconst 0, 1) := by decide +kernel
theorem dX11_isWithin_104 : decode cX11_isWithin 104 = .ok (.ireturn, 1) := by decide +kernel
theorem dX11_line_0 : decode cX11_line 0 = .ok (.aload_n 0, 1) := by decide +kernel
theorem dX11_line_1 : decode cX11_line 1 = .ok (.getfield 118, 3) := by decide +kernel
theorem dX11_line_4 : decode cX11_line 4 = .ok (.istore_n 1, 1) := by decide +kernel
theorem dX11_line_5 : decode cX11_line 5 = .ok (.aload_n 0, 1) := by decide +kernel
theorem dX11_line_6 : decode cX11_line 6 = .ok (.getfield 121, 3) := by decide +kernel
theorem dX11_line_9 : decode cX11_line 9 = .ok (.ifCond .eq 10, 3) := by decide +kernel
theorem dX11_line_12 : decode cX11_line 12 = .ok (.aload_n 0, 1) := by decide +kernel
theorem dX11_line_13 : decode cX11_line 13 = .ok (.iconst 1, 1) := by decide +kernel
theorem dX11_line_14 : decode cX11_line 14 = .ok (.iload_n 1, 1) := by decide +kernel
theorem dX11_line_15 : decode cX11_line 15 = .ok (.invokevirtual 153, 3) := by decide +kernel
theorem dX11_line_18 : decode cX11_line 18 = .ok (.return_, 1) := by decide +kernel
theorem dX11_line_19 : decode cX11_line 19 = .ok (.aload_n 0, 1) := by decide +kernel
theorem dX11_line_20 : decode cX11_line 20 = .ok (.getfield 131, 3) := by decide +kernel
theorem dX11_line_23 : decode cX11_line 23 = .ok (.istore_n 2, 1) := by decide +kernel
theorem dX11_line_24 : decode cX11_line 24 = .ok (.aload_n 0, 1) := by decide +kernel
theorem dX11_line_25 : decode cX11_line 25 = .ok (.invokevirtual 157, 3) := by decide +kernel
theorem dX11_line_28 : decode cX11_line 28 = .ok (.aload_n 0, 1) := by decide +kernel
theorem dX11_line_29 : decode cX11_line 29 = .ok (.getfield 121, 3) := by decide +kernel
theorem dX11_line_32 : decode cX11_line 32 = .ok (.iconst 1, 1) := by decide +kernel
theorem dX11_line_33 : decode cX11_line 33 = .ok (.if_icmp .eq 15, 3) := by decide +kernel
theorem dX11_line_36 : decode cX11_line 36 = .ok (.aload_n 0, 1) := by decide +kernel
theorem dX11_line_37 : decode cX11_line 37 = .ok (.iconst 1, 1) := by decide +kernel
theorem dX11_line_38 : decode cX11_line 38 = .ok (.aload_n 0, 1) := by decide +kernel
theorem dX11_line_39 : decode cX11_line 39 = .ok (.getfield 118, 3) := by decide +kernel
theorem dX11_line_42 : decode cX11_line 42 = .ok (.invokevirtual 153, 3) := by decide +kernel
theorem dX11_line_45 : decode cX11_line 45 = .ok (.goto 23, 3) := by decide +kernel
theorem dX11_line_48 : decode cX11_line 48 = .ok (.iload_n 2, 1) := by decide +kernel
theorem dX11_line_49 : decode cX11_line 49 = .ok (.aload_n 0, 1) := by decide +kernel
theorem dX11_line_50 : decode cX11_line 50 = .ok (.getfield 131, 3) := by decide +kernel
theorem dX11_line_53 : decode cX11_line 53 = .ok (.invokestatic 160, 3) := by decide +kernel
theorem dX11_line_56 : decode cX11_line 56 = .ok (.ifCond .ne 12, 3) := by decide +kernel
theorem dX11_line_59 : decode cX11_line 59 = .ok (.aload_n 0, 1) := by decide +kernel
theorem dX11_line_60 : decode cX11_line 60 = .ok (.iconst 2, 1) := by decide +kernel
theorem dX11_line_61 : decode cX11_line 61 = .ok (.aload_n 0, 1) := by decide +kernel
theorem dX11_line_62 : decode cX11_line 62 = .ok (.getfield 118, 3) := by decide +kernel
theorem dX11_line_65 : decode cX11_line 65 = .ok (.invokevirtual 153, 3) := by decide +kernel
theorem dX11_line_68 : decode cX11_line 68 = .ok (.aload_n 0, 1) := by decide +kernel
theorem dX11_line_69 : decode cX11_line 69 = .ok (.getfield 147, 3) := by decide +kernel
theorem dX11_line_72 : decode cX11_line 72 = .ok (.ifCond .eq 4, 3) := by decide +kernel
theorem dX11_line_75 : decode cX11_line 75 = .ok (.return_, 1) := by decide +kernel
theorem dX11_line_76 : decode cX11_line 76 = .ok (.aload_n 0, 1) := by decide +kernel
theorem dX11_line_77 : decode cX11_line 77 = .ok (.getfield 131, 3) := by decide +kernel
theorem dX11_line_80 : decode cX11_line 80 = .ok (.istore_n 3, 1) := by decide +kernel
theorem dX11_line_81 : decode cX11_line 81 = .ok (.aload_n 0, 1) := by decide +kernel
theorem dX11_line_82 : decode cX11_line 82 = .ok (.invokevirtual 157, 3) := by decide +kernel
theorem dX11_line_85 : decode cX11_line 85 = .ok (.aload_n 0, 1) := by decide +kernel
theorem dX11_line_86 : decode cX11_line 86 = .ok (.getfield 16, 3) := by decide +kernel
theorem dX11_line_89 : decode cX11_line 89 = .ok (.bipush 70, 2) := by decide +kernel
theorem dX11_line_91 : decode cX11_line 91 = .ok (.iload_n 2, 1) := by decide +kernel
theorem dX11_line_92 : decode cX11_line 92 = .ok (.iadd, 1) := by decide +kernel
theorem dX11_line_93 : decode cX11_line 93 = .ok (.iaload, 1) := by decide +kernel
theorem dX11_line_94 : decode cX11_line 94 = .ok (.iconst (-1), 1) := by decide +kernel
theorem dX11_line_95 : decode cX11_line 95 = .ok (.if_icmp .eq 9, 3) := by decide +kernel
theorem dX11_line_98 : decode cX11_line 98 = .ok (.aload_n 0, 1) := by decide +kernel
theorem dX11_line_99 : decode cX11_line 99 = .ok (.iconst 3, 1) := by decide +kernel
theorem dX11_line_100 : decode cX11_line 100 = .ok (.iload_n 1, 1) := by decide +kernel
theorem dX11_line_101 : decode cX11_line 101 = .ok (.invokevirtual 153, 3) := by decide +kernel
theorem dX11_line_104 : decode cX11_line 104 = .ok (.aload_n 0, 1) := by decide +kernel
theorem dX11_line_105 : decode cX11_line 105 = .ok (.getfield 121, 3) := by decide +kernel
theorem dX11_line_108 : decode cX11_line 108 = .ok (.iconst 2, 1) := by decide +kernel
theorem dX11_line_109 : decode cX11_line 109 = .ok (.if_icmp .eq 12, 3) := by decide +kernel
theorem dX11_line_112 : decode cX11_line 112 = .ok (.aload_n 0, 1) := by decide +kernel
theorem dX11_line_113 : decode cX11_line 113 = .ok (.iconst 1, 1) := by decide +kernel
theorem dX11_line_114 : decode cX11_line 114 = .ok (.aload_n 0, 1) := by decide +kernel
theorem dX11_line_115 : decode cX11_line 115 = .ok (.getfield 118, 3) := by decide +kernel
theorem dX11_line_118 : decode cX11_line 118 = .ok (.invokevirtual 153, 3) := by decide +kernel
theorem dX11_line_121 : decode cX11_line 121 = .ok (.aload_n 0, 1) := by decide +kernel
theorem dX11_line_122 : decode cX11_line 122 = .ok (.getfield 147, 3) := by decide +kernel
theorem dX11_line_125 : decode cX11_line 125 = .ok (.ifCond .eq 4, 3) := by decide +kernel
theorem dX11_line_128 : decode cX11_line 128 = .ok (.return_, 1) := by decide +kernel
theorem dX11_line_129 : decode cX11_line 129 = .ok (.aload_n 0, 1) := by decide +kernel
theorem dX11_line_130 : decode cX11_line 130 = .ok (.getfield 16, 3) := by decide +kernel
theorem dX11_line_133 : decode cX11_line 133 = .ok (.bipush 70, 2) := by decide +kernel
theorem dX11_line_135 : decode cX11_line 135 = .ok (.iload_n 2, 1) := by decide +kernel
theorem dX11_line_136 : decode cX11_line 136 = .ok (.iadd, 1) := by decide +kernel
theorem dX11_line_137 : decode cX11_line 137 = .ok (.iload_n 3, 1) := by decide +kernel
theorem dX11_line_138 : decode cX11_line 138 = .ok (.iastore, 1) := by decide +kernel
theorem dX11_line_139 : decode cX11_line 139 = .ok (.aload_n 0, 1) := by decide +kernel
theorem dX11_line_140 : decode cX11_line 140 = .ok (.invokevirtual 157, 3) := by decide +kernel
theorem dX11_line_143 : decode cX11_line 143 = .ok (.return_, 1) := by decide +kernel
theorem dX11_statute_0 : decode cX11_statute 0 = .ok (.aload_n 0, 1) := by decide +kernel
theorem dX11_statute_1 : decode cX11_statute 1 = .ok (.iconst 0, 1) := by decide +kernel
theorem dX11_statute_2 : decode cX11_statute 2 = .ok (.putfield 102, 3) := by decide +kernel
theorem dX11_statute_5 : decode cX11_statute 5 = .ok (.iload_n 1, 1) := by decide +kernel
theorem dX11_statute_6 : decode cX11_statute 6 = .ok (.ifCond .lt 30, 3) := by decide +kernel
theorem dX11_statute_9 : decode cX11_statute 9 = .ok (.iload_n 1, 1) := by decide +kernel
theorem dX11_statute_10 : decode cX11_statute 10 = .ok (.aload_n 0, 1) := by decide +kernel
theorem dX11_statute_11 : decode cX11_statute 11 = .ok (.getfield 105, 3) := by decide +kernel
theorem dX11_statute_14 : decode cX11_statute 14 = .ok (.if_icmp .gt 22, 3) := by decide +kernel
theorem dX11_statute_17 : decode cX11_statute 17 = .ok (.iload_n 2, 1) := by decide +kernel
theorem dX11_statute_18 : decode cX11_statute 18 = .ok (.ifCond .lt 18, 3) := by decide +kernel
theorem dX11_statute_21 : decode cX11_statute 21 = .ok (.iload_n 2, 1) := by decide +kernel
theorem dX11_statute_22 : decode cX11_statute 22 = .ok (.bipush 99, 2) := by decide +kernel
theorem dX11_statute_24 : decode cX11_statute 24 = .ok (.if_icmp .gt 12, 3) := by decide +kernel
theorem dX11_statute_27 : decode cX11_statute 27 = .ok (.aload_n 0, 1) := by decide +kernel
theorem dX11_statute_28 : decode cX11_statute 28 = .ok (.getfield 164, 3) := by decide +kernel
theorem dX11_statute_31 : decode cX11_statute 31 = .ok (.bipush 10, 2) := by decide +kernel
theorem dX11_statute_33 : decode cX11_statute 33 = .ok (.if_icmp .ne 6, 3) := by decide +kernel
theorem dX11_statute_36 : decode cX11_statute 36 = .ok (.bipush (-2), 2) := by decide +kernel
theorem dX11_statute_38 : decode cX11_statute 38 = .ok (.ireturn, 1) := by decide +kernel
theorem dX11_statute_39 : decode cX11_statute 39 = .ok (.aload_n 0, 1) := by decide +kernel
theorem dX11_statute_40 : decode cX11_statute 40 = .ok (.iload_n 1, 1) := by decide +kernel
theorem dX11_statute_41 : decode cX11_statute 41 = .ok (.putfield 111, 3) := by decide +kernel
theorem dX11_statute_44 : decode cX11_statute 44 = .ok (.aload_n 0, 1) := by decide +kernel
theorem dX11_statute_45 : decode cX11_statute 45 = .ok (.iconst 0, 1) := by decide +kernel
theorem dX11_statute_46 : decode cX11_statute 46 = .ok (.putfield 105, 3) := by decide +kernel
theorem dX11_statute_49 : decode cX11_statute 49 = .ok (.aload_n 0, 1) := by decide +kernel
theorem dX11_statute_50 : decode cX11_statute 50 = .ok (.iconst 0, 1) := by decide +kernel
theorem dX11_statute_51 : decode cX11_statute 51 = .ok (.putfield 108, 3) := by decide +kernel
theorem dX11_statute_54 : decode cX11_statute 54 = .ok (.aload_n 0, 1) := by decide +kernel
theorem dX11_statute_55 : decode cX11_statute 55 = .ok (.iconst 0, 1) := by decide +kernel
theorem dX11_statute_56 : decode cX11_statute 56 = .ok (.putfield 147, 3) := by decide +kernel
theorem dX11_statute_59 : decode cX11_statute 59 = .ok (.aload_n 0, 1) := by decide +kernel
theorem dX11_statute_60 : decode cX11_statute 60 = .ok (.iconst (-1), 1) := by decide +kernel
theorem dX11_statute_61 : decode cX11_statute 61 = .ok (.putfield 150, 3) := by decide +kernel
theorem dX11_statute_64 : decode cX11_statute 64 = .ok (.bipush 70, 2) := by decide +kernel
theorem dX11_statute_66 : decode cX11_statute 66 = .ok (.istore_n 3, 1) := by decide +kernel
theorem dX11_statute_67 : decode cX11_statute 67 = .ok (.iload_n 3, 1) := by decide +kernel
theorem dX11_statute_68 : decode cX11_statute 68 = .ok (.bipush 77, 2) := by decide +kernel
theorem dX11_statute_70 : decode cX11_statute 70 = .ok (.if_icmp .ge 16, 3) := by decide +kernel
theorem dX11_statute_73 : decode cX11_statute 73 = .ok (.aload_n 0, 1) := by decide +kernel
theorem dX11_statute_74 : decode cX11_statute 74 = .ok (.getfield 16, 3) := by decide +kernel
theorem dX11_statute_77 : decode cX11_statute 77 = .ok (.iload_n 3, 1) := by decide +kernel
theorem dX11_statute_78 : decode cX11_statute 78 = .ok (.iconst (-1), 1) := by decide +kernel
theorem dX11_statute_79 : decode cX11_statute 79 = .ok (.iastore, 1) := by decide +kernel
theorem dX11_statute_80 : decode cX11_statute 80 = .ok (.iinc 3 1, 3) := by decide +kernel
theorem dX11_statute_83 : decode cX11_statute 83 = .ok (.goto (-16), 3) := by decide +kernel
theorem dX11_statute_86 : decode cX11_statute 86 = .ok (.aload_n 0, 1) := by decide +kernel
theorem dX11_statute_87 : decode cX11_statute 87 = .ok (.invokevirtual 157, 3) := by decide +kernel
theorem dX11_statute_90 : decode cX11_statute 90 = .ok (.aload_n 0, 1) := by decide +kernel
theorem dX11_statute_91 : decode cX11_statute 91 = .ok (.getfield 147, 3) := by decide +kernel
theorem dX11_statute_94 : decode cX11_statute 94 = .ok (.ifCond .ne 18, 3) := by decide +kernel
theorem dX11_statute_97 : decode cX11_statute 97 = .ok (.aload_n 0, 1) := by decide +kernel
theorem dX11_statute_98 : decode cX11_statute 98 = .ok (.getfield 121, 3) := by decide +kernel
theorem dX11_statute_101 : decode cX11_statute 101 = .ok (.iconst 3, 1) := by decide +kernel
theorem dX11_statute_102 : decode cX11_statute 102 = .ok (.if_icmp .eq 10, 3) := by decide +kernel
theorem dX11_statute_105 : decode cX11_statute 105 = .ok (.aload_n 0, 1) := by decide +kernel
theorem dX11_statute_106 : decode cX11_statute 106 = .ok (.invokevirtual 167, 3) := by decide +kernel
theorem dX11_statute_109 : decode cX11_statute 109 = .ok (.goto (-19), 3) := by decide +kernel
theorem dX11_statute_112 : decode cX11_statute 112 = .ok (.aload_n 0, 1) := by decide +kernel
theorem dX11_statute_113 : decode cX11_statute 113 = .ok (.aload_n 0, 1) := by decide +kernel
theorem dX11_statute_114 : decode cX11_statute 114 = .ok (.getfield 147, 3) := by decide +kernel
theorem dX11_statute_117 : decode cX11_statute 117 = .ok (.putfield 170, 3) := by decide +kernel
theorem dX11_statute_120 : decode cX11_statute 120 = .ok (.aload_n 0, 1) := by decide +kernel
theorem dX11_statute_121 : decode cX11_statute 121 = .ok (.aload_n 0, 1) := by decide +kernel
theorem dX11_statute_122 : decode cX11_statute 122 = .ok (.getfield 150, 3) := by decide +kernel
theorem dX11_statute_125 : decode cX11_statute 125 = .ok (.putfield 19, 3) := by decide +kernel
theorem dX11_statute_128 : decode cX11_statute 128 = .ok (.aload_n 0, 1) := by decide +kernel
theorem dX11_statute_129 : decode cX11_statute 129 = .ok (.getfield 147, 3) := by decide +kernel
theorem dX11_statute_132 : decode cX11_statute 132 = .ok (.ifCond .eq 5, 3) := by decide +kernel
theorem dX11_statute_135 : decode cX11_statute 135 = .ok (.iconst (-1), 1) := by decide +kernel
theorem dX11_statute_136 : decode cX11_statute 136 = .ok (.ireturn, 1) := by decide +kernel
theorem dX11_statute_137 : decode cX11_statute 137 = .ok (.aload_n 0, 1) := by decide +kernel
theorem dX11_statute_138 : decode cX11_statute 138 = .ok (.getfield 13, 3) := by decide +kernel
theorem dX11_statute_141 : decode cX11_statute 141 = .ok (.aload_n 0, 1) := by decide +kernel
theorem dX11_statute_142 : decode cX11_statute 142 = .ok (.getfield 164, 3) := by decide +kernel
theorem dX11_statute_145 : decode cX11_statute 145 = .ok (.iload_n 2, 1) := by decide +kernel
theorem dX11_statute_146 : decode cX11_statute 146 = .ok (.iastore, 1) := by decide +kernel
theorem dX11_statute_147 : decode cX11_statute 147 = .ok (.iconst 0, 1) := by decide +kernel
theorem dX11_statute_148 : decode cX11_statute 148 = .ok (.istore_n 3, 1) := by decide +kernel
theorem dX11_statute_149 : decode cX11_statute 149 = .ok (.iload_n 3, 1) := by decide +kernel
theorem dX11_statute_150 : decode cX11_statute 150 = .ok (.bipush 7, 2) := by decide +kernel
theorem dX11_statute_152 : decode cX11_statute 152 = .ok (.if_icmp .ge 32, 3) := by decide +kernel
theorem dX11_statute_155 : decode cX11_statute 155 = .ok (.aload_n 0, 1) := by decide +kernel
theorem dX11_statute_156 : decode cX11_statute 156 = .ok (.getfield 16, 3) := by decide +kernel
theorem dX11_statute_159 : decode cX11_statute 159 = .ok (.bipush 7, 2) := by decide +kernel
theorem dX11_statute_161 : decode cX11_statute 161 = .ok (.aload_n 0, 1) := by decide +kernel
theorem dX11_statute_162 : decode cX11_statute 162 = .ok (.getfield 164, 3) := by decide +kernel
theorem dX11_statute_165 : decode cX11_statute 165 = .ok (.imul, 1) := by decide +kernel
theorem dX11_statute_166 : decode cX11_statute 166 = .ok (.iload_n 3, 1) := by decide +kernel
theorem dX11_statute_167 : decode cX11_statute 167 = .ok (.iadd, 1) := by decide +kernel
theorem dX11_statute_168 : decode cX11_statute 168 = .ok (.aload_n 0, 1) := by decide +kernel
theorem dX11_statute_169 : decode cX11_statute 169 = .ok (.getfield 16, 3) := by decide +kernel
theorem dX11_statute_172 : decode cX11_statute 172 = .ok (.bipush 70, 2) := by decide +kernel
theorem dX11_statute_174 : decode cX11_statute 174 = .ok (.iload_n 3, 1) := by decide +kernel
theorem dX11_statute_175 : decode cX11_statute 175 = .ok (.iadd, 1) := by decide +kernel
theorem dX11_statute_176 : decode cX11_statute 176 = .ok (.iaload, 1) := by decide +kernel
theorem dX11_statute_177 : decode cX11_statute 177 = .ok (.iastore, 1) := by decide +kernel
theorem dX11_statute_178 : decode cX11_statute 178 = .ok (.iinc 3 1, 3) := by decide +kernel
theorem dX11_statute_181 : decode cX11_statute 181 = .ok (.goto (-32), 3) := by decide +kernel
theorem dX11_statute_184 : decode cX11_statute 184 = .ok (.aload_n 0, 1) := by decide +kernel
theorem dX11_statute_185 : decode cX11_statute 185 = .ok (.dup, 1) := by decide +kernel
theorem dX11_statute_186 : decode cX11_statute 186 = .ok (.getfield 164, 3) := by decide +kernel
theorem dX11_statute_189 : decode cX11_statute 189 = .ok (.iconst 1, 1) := by decide +kernel
theorem dX11_statute_190 : decode cX11_statute 190 = .ok (.iadd, 1) := by decide +kernel
theorem dX11_statute_191 : decode cX11_statute 191 = .ok (.putfield 164, 3) := by decide +kernel
theorem dX11_statute_194 : decode cX11_statute 194 = .ok (.aload_n 0, 1) := by decide +kernel
theorem dX11_statute_195 : decode cX11_statute 195 = .ok (.getfield 164, 3) := by decide +kernel
theorem dX11_statute_198 : decode cX11_statute 198 = .ok (.iconst 1, 1) := by decide +kernel
theorem dX11_statute_199 : decode cX11_statute 199 = .ok (.isub, 1) := by decide +kernel
theorem dX11_statute_200 : decode cX11_statute 200 = .ok (.ireturn, 1) := by decide +kernel
theorem dX11_fault_0 : decode cX11_fault 0 = .ok (.aload_n 0, 1) := by decide +kernel
theorem dX11_fault_1 : decode cX11_fault 1 = .ok (.iconst 0, 1) := by decide +kernel
theorem dX11_fault_2 : decode cX11_fault 2 = .ok (.putfield 102, 3) := by decide +kernel
theorem dX11_fault_5 : decode cX11_fault 5 = .ok (.iload_n 1, 1) := by decide +kernel
theorem dX11_fault_6 : decode cX11_fault 6 = .ok (.ifCond .ne 10, 3) := by decide +kernel
theorem dX11_fault_9 : decode cX11_fault 9 = .ok (.aload_n 0, 1) := by decide +kernel
theorem dX11_fault_10 : decode cX11_fault 10 = .ok (.getfield 170, 3) := by decide +kernel
theorem dX11_fault_13 : decode cX11_fault 13 = .ok (.goto 16, 3) := by decide +kernel
theorem dX11_fault_16 : decode cX11_fault 16 = .ok (.iload_n 1, 1) := by decide +kernel
theorem dX11_fault_17 : decode cX11_fault 17 = .ok (.iconst 1, 1) := by decide +kernel
theorem dX11_fault_18 : decode cX11_fault 18 = .ok (.if_icmp .ne 10, 3) := by decide +kernel
theorem dX11_fault_21 : decode cX11_fault 21 = .ok (.aload_n 0, 1) := by decide +kernel
theorem dX11_fault_22 : decode cX11_fault 22 = .ok (.getfield 19, 3) := by decide +kernel
theorem dX11_fault_25 : decode cX11_fault 25 = .ok (.goto 4, 3) := by decide +kernel
theorem dX11_fault_28 : decode cX11_fault 28 = .ok (.iconst (-1), 1) := by decide +kernel
theorem dX11_fault_29 : decode cX11_fault 29 = .ok (.ireturn, 1) := by decide +kernel
theorem dX11_lawOf_0 : decode cX11_lawOf 0 = .ok (.iload_n 1, 1) := by decide +kernel
theorem dX11_lawOf_1 : decode cX11_lawOf 1 = .ok (.ifCond .ne 7, 3) := by decide +kernel
theorem dX11_lawOf_4 : decode cX11_lawOf 4 = .ok (.iconst 3, 1) := by decide +kernel
theorem dX11_lawOf_5 : decode cX11_lawOf 5 = .ok (.goto 23, 3) := by decide +kernel
theorem dX11_lawOf_8 : decode cX11_lawOf 8 = .ok (.iload_n 1, 1) := by decide +kernel
theorem dX11_lawOf_9 : decode cX11_lawOf 9 = .ok (.iconst 1, 1) := by decide +kernel
theorem dX11_lawOf_10 : decode cX11_lawOf 10 = .ok (.if_icmp .ne 7, 3) := by decide +kernel
theorem dX11_lawOf_13 : decode cX11_lawOf 13 = .ok (.iconst 1, 1) := by decide +kernel
theorem dX11_lawOf_14 : decode cX11_lawOf 14 = .ok (.goto 14, 3) := by decide +kernel
theorem dX11_lawOf_17 : decode cX11_lawOf 17 = .ok (.iload_n 1, 1) := by decide +kernel
theorem dX11_lawOf_18 : decode cX11_lawOf 18 = .ok (.iconst 2, 1) := by decide +kernel
theorem dX11_lawOf_19 : decode cX11_lawOf 19 = .ok (.if_icmp .ne 8, 3) := by decide +kernel
theorem dX11_lawOf_22 : decode cX11_lawOf 22 = .ok (.bipush 9, 2) := by decide +kernel
theorem dX11_lawOf_24 : decode cX11_lawOf 24 = .ok (.goto 4, 3) := by decide +kernel
theorem dX11_lawOf_27 : decode cX11_lawOf 27 = .ok (.iconst 0, 1) := by decide +kernel
theorem dX11_lawOf_28 : decode cX11_lawOf 28 = .ok (.istore_n 3, 1) := by decide +kernel
theorem dX11_lawOf_29 : decode cX11_lawOf 29 = .ok (.iconst (-1), 1) := by decide +kernel
theorem dX11_lawOf_30 : decode cX11_lawOf 30 = .ok (.istore 4, 2) := by decide +kernel
theorem dX11_lawOf_32 : decode cX11_lawOf 32 = .ok (.iconst 0, 1) := by decide +kernel
theorem dX11_lawOf_33 : decode cX11_lawOf 33 = .ok (.istore 5, 2) := by decide +kernel
theorem dX11_lawOf_35 : decode cX11_lawOf 35 = .ok (.iload 5, 2) := by decide +kernel
theorem dX11_lawOf_37 : decode cX11_lawOf 37 = .ok (.aload_n 0, 1) := by decide +kernel
theorem dX11_lawOf_38 : decode cX11_lawOf 38 = .ok (.getfield 164, 3) := by decide +kernel
theorem dX11_lawOf_41 : decode cX11_lawOf 41 = .ok (.if_icmp .ge 73, 3) := by decide +kernel
theorem dX11_lawOf_44 : decode cX11_lawOf 44 = .ok (.aload_n 0, 1) := by decide +kernel
theorem dX11_lawOf_45 : decode cX11_lawOf 45 = .ok (.getfield 13, 3) := by decide +kernel
theorem dX11_lawOf_48 : decode cX11_lawOf 48 = .ok (.iload 5, 2) := by decide +kernel
theorem dX11_lawOf_50 : decode cX11_lawOf 50 = .ok (.iaload, 1) := by decide +kernel
theorem dX11_lawOf_51 : decode cX11_lawOf 51 = .ok (.iload_n 2, 1) := by decide +kernel
theorem dX11_lawOf_52 : decode cX11_lawOf 52 = .ok (.if_icmp .gt 56, 3) := by decide +kernel
theorem dX11_lawOf_55 : decode cX11_lawOf 55 = .ok (.aload_n 0, 1) := by decide +kernel
theorem dX11_lawOf_56 : decode cX11_lawOf 56 = .ok (.getfield 13, 3) := by decide +kernel
theorem dX11_lawOf_59 : decode cX11_lawOf 59 = .ok (.iload 5, 2) := by decide +kernel
theorem dX11_lawOf_61 : decode cX11_lawOf 61 = .ok (.iaload, 1) := by decide +kernel
theorem dX11_lawOf_62 : decode cX11_lawOf 62 = .ok (.iload 4, 2) := by decide +kernel
theorem dX11_lawOf_64 : decode cX11_lawOf 64 = .ok (.if_icmp .lt 44, 3) := by decide +kernel
theorem dX11_lawOf_67 : decode cX11_lawOf 67 = .ok (.aload_n 0, 1) := by decide +kernel
theorem dX11_lawOf_68 : decode cX11_lawOf 68 = .ok (.getfield 16, 3) := by decide +kernel
theorem dX11_lawOf_71 : decode cX11_lawOf 71 = .ok (.bipush 7, 2) := by decide +kernel
theorem dX11_lawOf_73 : decode cX11_lawOf 73 = .ok (.iload 5, 2) := by decide +kernel
theorem dX11_lawOf_75 : decode cX11_lawOf 75 = .ok (.imul, 1) := by decide +kernel
theorem dX11_lawOf_76 : decode cX11_lawOf 76 = .ok (.iload_n 1, 1) := by decide +kernel
theorem dX11_lawOf_77 : decode cX11_lawOf 77 = .ok (.iadd, 1) := by decide +kernel
theorem dX11_lawOf_78 : decode cX11_lawOf 78 = .ok (.iaload, 1) := by decide +kernel
theorem dX11_lawOf_79 : decode cX11_lawOf 79 = .ok (.iconst (-1), 1) := by decide +kernel
theorem dX11_lawOf_80 : decode cX11_lawOf 80 = .ok (.if_icmp .ne 6, 3) := by decide +kernel
theorem dX11_lawOf_83 : decode cX11_lawOf 83 = .ok (.goto 25, 3) := by decide +kernel
theorem dX11_lawOf_86 : decode cX11_lawOf 86 = .ok (.aload_n 0, 1) := by decide +kernel
theorem dX11_lawOf_87 : decode cX11_lawOf 87 = .ok (.getfield 13, 3) := by decide +kernel
theorem dX11_lawOf_90 : decode cX11_lawOf 90 = .ok (.iload 5, 2) := by decide +kernel
theorem dX11_lawOf_92 : decode cX11_lawOf 92 = .ok (.iaload, 1) := by decide +kernel
theorem dX11_lawOf_93 : decode cX11_lawOf 93 = .ok (.istore 4, 2) := by decide +kernel
theorem dX11_lawOf_95 : decode cX11_lawOf 95 = .ok (.aload_n 0, 1) := by decide +kernel
theorem dX11_lawOf_96 : decode cX11_lawOf 96 = .ok (.getfield 16, 3) := by decide +kernel
theorem dX11_lawOf_99 : decode cX11_lawOf 99 = .ok (.bipush 7, 2) := by decide +kernel
theorem dX11_lawOf_101 : decode cX11_lawOf 101 = .ok (.iload 5, 2) := by decide +kernel
theorem dX11_lawOf_103 : decode cX11_lawOf 103 = .ok (.imul, 1) := by decide +kernel
theorem dX11_lawOf_104 : decode cX11_lawOf 104 = .ok (.iload_n 1, 1) := by decide +kernel
theorem dX11_lawOf_105 : decode cX11_lawOf 105 = .ok (.iadd, 1) := by decide +kernel
theorem dX11_lawOf_106 : decode cX11_lawOf 106 = .ok (.iaload, 1) := by decide +kernel
theorem dX11_lawOf_107 : decode cX11_lawOf 107 = .ok (.istore_n 3, 1) := by decide +kernel
theorem dX11_lawOf_108 : decode cX11_lawOf 108 = .ok (.iinc 5 1, 3) := by decide +kernel
theorem dX11_lawOf_111 : decode cX11_lawOf 111 = .ok (.goto (-76), 3) := by decide +kernel
theorem dX11_lawOf_114 : decode cX11_lawOf 114 = .ok (.iload_n 3, 1) := by decide +kernel
theorem dX11_lawOf_115 : decode cX11_lawOf 115 = .ok (.ireturn, 1) := by decide +kernel
theorem dX11_law_0 : decode cX11_law 0 = .ok (.aload_n 0, 1) := by decide +kernel
theorem dX11_law_1 : decode cX11_law 1 = .ok (.iconst 0, 1) := by decide +kernel
theorem dX11_law_2 : decode cX11_law 2 = .ok (.putfield 102, 3) := by decide +kernel
theorem dX11_law_5 : decode cX11_law 5 = .ok (.iload_n 1, 1) := by decide +kernel
theorem dX11_law_6 : decode cX11_law 6 = .ok (.ifCond .lt 19, 3) := by decide +kernel
theorem dX11_law_9 : decode cX11_law 9 = .ok (.iload_n 1, 1) := by decide +kernel
theorem dX11_law_10 : decode cX11_law 10 = .ok (.bipush 6, 2) := by decide +kernel
theorem dX11_law_12 : decode cX11_law 12 = .ok (.if_icmp .gt 13, 3) := by decide +kernel
theorem dX11_law_15 : decode cX11_law 15 = .ok (.iload_n 2, 1) := by decide +kernel
theorem dX11_law_16 : decode cX11_law 16 = .ok (.ifCond .lt 9, 3) := by decide +kernel
theorem dX11_law_19 : decode cX11_law 19 = .ok (.iload_n 2, 1) := by decide +kernel
theorem dX11_law_20 : decode cX11_law 20 = .ok (.bipush 99, 2) := by decide +kernel
theorem dX11_law_22 : decode cX11_law 22 = .ok (.if_icmp .le 7, 3) := by decide +kernel
theorem dX11_law_25 : decode cX11_law 25 = .ok (.iconst (-1), 1) := by decide +kernel
theorem dX11_law_26 : decode cX11_law 26 = .ok (.goto 9, 3) := by decide +kernel
theorem dX11_law_29 : decode cX11_law 29 = .ok (.aload_n 0, 1) := by decide +kernel
theorem dX11_law_30 : decode cX11_law 30 = .ok (.iload_n 1, 1) := by decide +kernel
theorem dX11_law_31 : decode cX11_law 31 = .ok (.iload_n 2, 1) := by decide +kernel
theorem dX11_law_32 : decode cX11_law 32 = .ok (.invokevirtual 173, 3) := by decide +kernel
theorem dX11_law_35 : decode cX11_law 35 = .ok (.ireturn, 1) := by decide +kernel
theorem dX11_isWard_0 : decode cX11_isWard 0 = .ok (.iload_n 1, 1) := by decide +kernel
theorem dX11_isWard_1 : decode cX11_isWard 1 = .ok (.ifCond .lt 15, 3) := by decide +kernel
theorem dX11_isWard_4 : decode cX11_isWard 4 = .ok (.iload_n 1, 1) := by decide +kernel
theorem dX11_isWard_5 : decode cX11_isWard 5 = .ok (.aload_n 0, 1) := by decide +kernel
theorem dX11_isWard_6 : decode cX11_isWard 6 = .ok (.getfield 177, 3) := by decide +kernel
theorem dX11_isWard_9 : decode cX11_isWard 9 = .ok (.if_icmp .ge 7, 3) := by decide +kernel
theorem dX11_isWard_12 : decode cX11_isWard 12 = .ok (.iconst 1, 1) := by decide +kernel
theorem dX11_isWard_13 : decode cX11_isWard 13 = .ok (.goto 4, 3) := by decide +kernel
theorem dX11_isWard_16 : decode cX11_isWard 16 = .ok (.iconst 0, 1) := by decide +kernel
theorem dX11_isWard_17 : decode cX11_isWard 17 = .ok (.ireturn, 1) := by decide +kernel
theorem dX11_ward_0 : decode cX11_ward 0 = .ok (.aload_n 0, 1) := by decide +kernel
theorem dX11_ward_1 : decode cX11_ward 1 = .ok (.iconst 0, 1) := by decide +kernel
theorem dX11_ward_2 : decode cX11_ward 2 = .ok (.putfield 102, 3) := by decide +kernel
theorem dX11_ward_5 : decode cX11_ward 5 = .ok (.aload_n 0, 1) := by decide +kernel
theorem dX11_ward_6 : decode cX11_ward 6 = .ok (.getfield 177, 3) := by decide +kernel
theorem dX11_ward_9 : decode cX11_ward 9 = .ok (.bipush 17, 2) := by decide +kernel
theorem dX11_ward_11 : decode cX11_ward 11 = .ok (.if_icmp .ne 5, 3) := by decide +kernel
theorem dX11_ward_14 : decode cX11_ward 14 = .ok (.iconst (-1), 1) := by decide +kernel
theorem dX11_ward_15 : decode cX11_ward 15 = .ok (.ireturn, 1) := by decide +kernel
theorem dX11_ward_16 : decode cX11_ward 16 = .ok (.aload_n 0, 1) := by decide +kernel
theorem dX11_ward_17 : decode cX11_ward 17 = .ok (.dup, 1) := by decide +kernel
theorem dX11_ward_18 : decode cX11_ward 18 = .ok (.getfield 177, 3) := by decide +kernel
theorem dX11_ward_21 : decode cX11_ward 21 = .ok (.iconst 1, 1) := by decide +kernel
theorem dX11_ward_22 : decode cX11_ward 22 = .ok (.iadd, 1) := by decide +kernel
theorem dX11_ward_23 : decode cX11_ward 23 = .ok (.putfield 177, 3) := by decide +kernel
theorem dX11_ward_26 : decode cX11_ward 26 = .ok (.aload_n 0, 1) := by decide +kernel
theorem dX11_ward_27 : decode cX11_ward 27 = .ok (.getfield 177, 3) := by decide +kernel
theorem dX11_ward_30 : decode cX11_ward 30 = .ok (.iconst 1, 1) := by decide +kernel
theorem dX11_ward_31 : decode cX11_ward 31 = .ok (.isub, 1) := by decide +kernel
theorem dX11_ward_32 : decode cX11_ward 32 = .ok (.ireturn, 1) := by decide +kernel
theorem dX11_horse_0 : decode cX11_horse 0 = .ok (.aload_n 0, 1) := by decide +kernel
theorem dX11_horse_1 : decode cX11_horse 1 = .ok (.iconst 0, 1) := by decide +kernel
theorem dX11_horse_2 : decode cX11_horse 2 = .ok (.putfield 102, 3) := by decide +kernel
theorem dX11_horse_5 : decode cX11_horse 5 = .ok (.iload_n 1, 1) := by decide +kernel
theorem dX11_horse_6 : decode cX11_horse 6 = .ok (.ifCond .lt 19, 3) := by decide +kernel
theorem dX11_horse_9 : decode cX11_horse 9 = .ok (.iload_n 1, 1) := by decide +kernel
theorem dX11_horse_10 : decode cX11_horse 10 = .ok (.sipush 999, 3) := by decide +kernel
theorem dX11_horse_13 : decode cX11_horse 13 = .ok (.if_icmp .gt 12, 3) := by decide +kernel
theorem dX11_horse_16 : decode cX11_horse 16 = .ok (.aload_n 0, 1) := by decide +kernel
theorem dX11_horse_17 : decode cX11_horse 17 = .ok (.getfield 180, 3) := by decide +kernel
theorem dX11_horse_20 : decode cX11_horse 20 = .ok (.bipush 16, 2) := by decide +kernel
theorem dX11_horse_22 : decode cX11_horse 22 = .ok (.if_icmp .ne 5, 3) := by decide +kernel
theorem dX11_horse_25 : decode cX11_horse 25 = .ok (.iconst (-1), 1) := by decide +kernel
theorem dX11_horse_26 : decode cX11_horse 26 = .ok (.ireturn, 1) := by decide +kernel
theorem dX11_horse_27 : decode cX11_horse 27 = .ok (.aload_n 0, 1) := by decide +kernel
theorem dX11_horse_28 : decode cX11_horse 28 = .ok (.getfield 48, 3) := by decide +kernel
theorem dX11_horse_31 : decode cX11_horse 31 = .ok (.aload_n 0, 1) := by decide +kernel
theorem dX11_horse_32 : decode cX11_horse 32 = .ok (.getfield 180, 3) := by decide +kernel
theorem dX11_horse_35 : decode cX11_horse 35 = .ok (.iload_n 1, 1) := by decide +kernel
theorem dX11_horse_36 : decode cX11_horse 36 = .ok (.iastore, 1) := by decide +kernel
theorem dX11_horse_37 : decode cX11_horse 37 = .ok (.aload_n 0, 1) := by decide +kernel
theorem dX11_horse_38 : decode cX11_horse 38 = .ok (.getfield 51, 3) := by decide +kernel
theorem dX11_horse_41 : decode cX11_horse 41 = .ok (.aload_n 0, 1) := by decide +kernel
theorem dX11_horse_42 : decode cX11_horse 42 = .ok (.getfield 180, 3) := by decide +kernel
theorem dX11_horse_45 : decode cX11_horse 45 = .ok (.iconst 1, 1) := by decide +kernel
theorem dX11_horse_46 : decode cX11_horse 46 = .ok (.bastore, 1) := by decide +kernel
theorem dX11_horse_47 : decode cX11_horse 47 = .ok (.aload_n 0, 1) := by decide +kernel
theorem dX11_horse_48 : decode cX11_horse 48 = .ok (.dup, 1) := by decide +kernel
theorem dX11_horse_49 : decode cX11_horse 49 = .ok (.getfield 180, 3) := by decide +kernel
theorem dX11_horse_52 : decode cX11_horse 52 = .ok (.iconst 1, 1) := by decide +kernel
theorem dX11_horse_53 : decode cX11_horse 53 = .ok (.iadd, 1) := by decide +kernel
theorem dX11_horse_54 : decode cX11_horse 54 = .ok (.putfield 180, 3) := by decide +kernel
theorem dX11_horse_57 : decode cX11_horse 57 = .ok (.aload_n 0, 1) := by decide +kernel
theorem dX11_horse_58 : decode cX11_horse 58 = .ok (.getfield 180, 3) := by decide +kernel
theorem dX11_horse_61 : decode cX11_horse 61 = .ok (.iconst 1, 1) := by decide +kernel
theorem dX11_horse_62 : decode cX11_horse 62 = .ok (.isub, 1) := by decide +kernel
theorem dX11_horse_63 : decode cX11_horse 63 = .ok (.ireturn, 1) := by decide +kernel
theorem dX11_sound_0 : decode cX11_sound 0 = .ok (.aload_n 0, 1) := by decide +kernel
theorem dX11_sound_1 : decode cX11_sound 1 = .ok (.iconst 0, 1) := by decide +kernel
theorem dX11_sound_2 : decode cX11_sound 2 = .ok (.putfield 102, 3) := by decide +kernel
theorem dX11_sound_5 : decode cX11_sound 5 = .ok (.iload_n 1, 1) := by decide +kernel
theorem dX11_sound_6 : decode cX11_sound 6 = .ok (.ifCond .lt 11, 3) := by decide +kernel
theorem dX11_sound_9 : decode cX11_sound 9 = .ok (.iload_n 1, 1) := by decide +kernel
theorem dX11_sound_10 : decode cX11_sound 10 = .ok (.aload_n 0, 1) := by decide +kernel
theorem dX11_sound_11 : decode cX11_sound 11 = .ok (.getfield 180, 3) := by decide +kernel
theorem dX11_sound_14 : decode cX11_sound 14 = .ok (.if_icmp .lt 5, 3) := by decide +kernel
theorem dX11_sound_17 : decode cX11_sound 17 = .ok (.iconst 0, 1) := by decide +kernel
theorem dX11_sound_18 : decode cX11_sound 18 = .ok (.ireturn, 1) := by decide +kernel
theorem dX11_sound_19 : decode cX11_sound 19 = .ok (.aload_n 0, 1) := by decide +kernel
theorem dX11_sound_20 : decode cX11_sound 20 = .ok (.getfield 51, 3) := by decide +kernel
theorem dX11_sound_23 : decode cX11_sound 23 = .ok (.iload_n 1, 1) := by decide +kernel
theorem dX11_sound_24 : decode cX11_sound 24 = .ok (.iload_n 2, 1) := by decide +kernel
theorem dX11_sound_25 : decode cX11_sound 25 = .ok (.bastore, 1) := by decide +kernel
theorem dX11_sound_26 : decode cX11_sound 26 = .ok (.iconst 1, 1) := by decide +kernel
theorem dX11_sound_27 : decode cX11_sound 27 = .ok (.ireturn, 1) := by decide +kernel
theorem dX11_draws_0 : decode cX11_draws 0 = .ok (.aload_n 0, 1) := by decide +kernel
theorem dX11_draws_1 : decode cX11_draws 1 = .ok (.ldc 183, 2) := by decide +kernel
theorem dX11_draws_3 : decode cX11_draws 3 = .ok (.aload_n 0, 1) := by decide +kernel
theorem dX11_draws_4 : decode cX11_draws 4 = .ok (.getfield 184, 3) := by decide +kernel
theorem dX11_draws_7 : decode cX11_draws 7 = .ok (.imul, 1) := by decide +kernel
theorem dX11_draws_8 : decode cX11_draws 8 = .ok (.sipush 12345, 3) := by decide +kernel
theorem dX11_draws_11 : decode cX11_draws 11 = .ok (.iadd, 1) := by decide +kernel
theorem dX11_draws_12 : decode cX11_draws 12 = .ok (.putfield 184, 3) := by decide +kernel
theorem dX11_draws_15 : decode cX11_draws 15 = .ok (.aload_n 0, 1) := by decide +kernel
theorem dX11_draws_16 : decode cX11_draws 16 = .ok (.getfield 184, 3) := by decide +kernel
theorem dX11_draws_19 : decode cX11_draws 19 = .ok (.bipush 16, 2) := by decide +kernel
theorem dX11_draws_21 : decode cX11_draws 21 = .ok (.ishr, 1) := by decide +kernel
theorem dX11_draws_22 : decode cX11_draws 22 = .ok (.sipush 32767, 3) := by decide +kernel
theorem dX11_draws_25 : decode cX11_draws 25 = .ok (.iand, 1) := by decide +kernel
theorem dX11_draws_26 : decode cX11_draws 26 = .ok (.iload_n 1, 1) := by decide +kernel
theorem dX11_draws_27 : decode cX11_draws 27 = .ok (.irem, 1) := by decide +kernel
theorem dX11_draws_28 : decode cX11_draws 28 = .ok (.ireturn, 1) := by decide +kernel
theorem dX11_isBarred_0 : decode cX11_isBarred 0 = .ok (.aload_n 0, 1) := by decide +kernel
theorem dX11_isBarred_1 : decode cX11_isBarred 1 = .ok (.getfield 26, 3) := by decide +kernel
theorem dX11_isBarred_4 : decode cX11_isBarred 4 = .ok (.iload_n 1, 1) := by decide +kernel
theorem dX11_isBarred_5 : decode cX11_isBarred 5 = .ok (.iaload, 1) := by decide +kernel
theorem dX11_isBarred_6 : decode cX11_isBarred 6 = .ok (.aload_n 0, 1) := by decide +kernel
theorem dX11_isBarred_7 : decode cX11_isBarred 7 = .ok (.getfield 187, 3) := by decide +kernel
theorem dX11_isBarred_10 : decode cX11_isBarred 10 = .ok (.if_icmp .lt 7, 3) := by decide +kernel
theorem dX11_isBarred_13 : decode cX11_isBarred 13 = .ok (.iconst 1, 1) := by decide +kernel
theorem dX11_isBarred_14 : decode cX11_isBarred 14 = .ok (.goto 4, 3) := by decide +kernel
theorem dX11_isBarred_17 : decode cX11_isBarred 17 = .ok (.iconst 0, 1) := by decide +kernel
theorem dX11_isBarred_18 : decode cX11_isBarred 18 = .ok (.ireturn, 1) := by decide +kernel
theorem dX11_choose_0 : decode cX11_choose 0 = .ok (.aload_n 0, 1) := by decide +kernel
theorem dX11_choose_1 : decode cX11_choose 1 = .ok (.iconst 0, 1) := by decide +kernel
theorem dX11_choose_2 : decode cX11_choose 2 = .ok (.putfield 102, 3) := by decide +kernel
theorem dX11_choose_5 : decode cX11_choose 5 = .ok (.aload_n 0, 1) := by decide +kernel
theorem dX11_choose_6 : decode cX11_choose 6 = .ok (.getfield 190, 3) := by decide +kernel
theorem dX11_choose_9 : decode cX11_choose 9 = .ok (.ifCond .eq 5, 3) := by decide +kernel
theorem dX11_choose_12 : decode cX11_choose 12 = .ok (.iconst (-1), 1) := by decide +kernel
theorem dX11_choose_13 : decode cX11_choose 13 = .ok (.ireturn, 1) := by decide +kernel
theorem dX11_choose_14 : decode cX11_choose 14 = .ok (.iconst 0, 1) := by decide +kernel
theorem dX11_choose_15 : decode cX11_choose 15 = .ok (.istore_n 2, 1) := by decide +kernel
theorem dX11_choose_16 : decode cX11_choose 16 = .ok (.iconst 0, 1) := by decide +kernel
theorem dX11_choose_17 : decode cX11_choose 17 = .ok (.istore_n 3, 1) := by decide +kernel
theorem dX11_choose_18 : decode cX11_choose 18 = .ok (.iload_n 3, 1) := by decide +kernel
theorem dX11_choose_19 : decode cX11_choose 19 = .ok (.aload_n 0, 1) := by decide +kernel
theorem dX11_choose_20 : decode cX11_choose 20 = .ok (.getfield 177, 3) := by decide +kernel
theorem dX11_choose_23 : decode cX11_choose 23 = .ok (.if_icmp .ge 32, 3) := by decide +kernel
theorem dX11_choose_26 : decode cX11_choose 26 = .ok (.iload_n 2, 1) := by decide +kernel
theorem dX11_choose_27 : decode cX11_choose 27 = .ok (.aload_n 0, 1) := by decide +kernel
theorem dX11_choose_28 : decode cX11_choose 28 = .ok (.iload_n 3, 1) := by decide +kernel
theorem dX11_choose_29 : decode cX11_choose 29 = .ok (.invokevirtual 193, 3) := by decide +kernel
theorem dX11_choose_32 : decode cX11_choose 32 = .ok (.ifCond .eq 7, 3) := by decide +kernel
theorem dX11_choose_35 : decode cX11_choose 35 = .ok (.iconst 0, 1) := by decide +kernel
theorem dX11_choose_36 : decode cX11_choose 36 = .ok (.goto 4, 3) := by decide +kernel
theorem dX11_choose_39 : decode cX11_choose 39 = .ok (.iconst 1, 1) := by decide +kernel
theorem dX11_choose_40 : decode cX11_choose 40 = .ok (.iadd, 1) := by decide +kernel
theorem dX11_choose_41 : decode cX11_choose 41 = .ok (.istore_n 2, 1) := by decide +kernel
theorem dX11_choose_42 : decode cX11_choose 42 = .ok (.aload_n 0, 1) := by decide +kernel
theorem dX11_choose_43 : decode cX11_choose 43 = .ok (.getfield 38, 3) := by decide +kernel
theorem dX11_choose_46 : decode cX11_choose 46 = .ok (.iload_n 3, 1) := by decide +kernel
theorem dX11_choose_47 : decode cX11_choose 47 = .ok (.iconst 0, 1) := by decide +kernel
theorem dX11_choose_48 : decode cX11_choose 48 = .ok (.bastore, 1) := by decide +kernel
theorem dX11_choose_49 : decode cX11_choose 49 = .ok (.iinc 3 1, 3) := by decide +kernel
theorem dX11_choose_52 : decode cX11_choose 52 = .ok (.goto (-34), 3) := by decide +kernel
theorem dX11_choose_55 : decode cX11_choose 55 = .ok (.aload_n 0, 1) := by decide +kernel
theorem dX11_choose_56 : decode cX11_choose 56 = .ok (.iload_n 2, 1) := by decide +kernel
theorem dX11_choose_57 : decode cX11_choose 57 = .ok (.aload_n 0, 1) := by decide +kernel
theorem dX11_choose_58 : decode cX11_choose 58 = .ok (.iconst 0, 1) := by decide +kernel
theorem dX11_choose_59 : decode cX11_choose 59 = .ok (.aload_n 0, 1) := by decide +kernel
theorem dX11_choose_60 : decode cX11_choose 60 = .ok (.getfield 187, 3) := by decide +kernel
theorem dX11_choose_63 : decode cX11_choose 63 = .ok (.invokevirtual 173, 3) := by decide +kernel
theorem dX11_choose_66 : decode cX11_choose 66 = .ok (.invokestatic 196, 3) := by decide +kernel
theorem dX11_choose_69 : decode cX11_choose 69 = .ok (.putfield 201, 3) := by decide +kernel
theorem dX11_choose_72 : decode cX11_choose 72 = .ok (.aload_n 0, 1) := by decide +kernel
theorem dX11_choose_73 : decode cX11_choose 73 = .ok (.getfield 201, 3) := by decide +kernel
theorem dX11_choose_76 : decode cX11_choose 76 = .ok (.iconst 2, 1) := by decide +kernel
theorem dX11_choose_77 : decode cX11_choose 77 = .ok (.if_icmp .ge 5, 3) := by decide +kernel
theorem dX11_choose_80 : decode cX11_choose 80 = .ok (.iconst (-1), 1) := by decide +kernel
theorem dX11_choose_81 : decode cX11_choose 81 = .ok (.ireturn, 1) := by decide +kernel
theorem dX11_choose_82 : decode cX11_choose 82 = .ok (.aload_n 0, 1) := by decide +kernel
theorem dX11_choose_83 : decode cX11_choose 83 = .ok (.iload_n 1, 1) := by decide +kernel
theorem dX11_choose_84 : decode cX11_choose 84 = .ok (.putfield 184, 3) := by decide +kernel
theorem dX11_choose_87 : decode cX11_choose 87 = .ok (.iconst 0, 1) := by decide +kernel
theorem dX11_choose_88 : decode cX11_choose 88 = .ok (.istore_n 3, 1) := by decide +kernel
theorem dX11_choose_89 : decode cX11_choose 89 = .ok (.iload_n 3, 1) := by decide +kernel
theorem dX11_choose_90 : decode cX11_choose 90 = .ok (.aload_n 0, 1) := by decide +kernel
theorem dX11_choose_91 : decode cX11_choose 91 = .ok (.getfield 201, 3) := by decide +kernel
theorem dX11_choose_94 : decode cX11_choose 94 = .ok (.if_icmp .ge 48, 3) := by decide +kernel
theorem dX11_choose_97 : decode cX11_choose 97 = .ok (.iload_n 3, 1) := by decide +kernel
theorem dX11_choose_98 : decode cX11_choose 98 = .ok (.aload_n 0, 1) := by decide +kernel
theorem dX11_choose_99 : decode cX11_choose 99 = .ok (.getfield 201, 3) := by decide +kernel
theorem dX11_choose_102 : decode cX11_choose 102 = .ok (.aload_n 0, 1) := by decide +kernel
theorem dX11_choose_103 : decode cX11_choose 103 = .ok (.getfield 201, 3) := by decide +kernel
theorem dX11_choose_106 : decode cX11_choose 106 = .ok (.iconst 3, 1) := by decide +kernel
theorem dX11_choose_107 : decode cX11_choose 107 = .ok (.idiv, 1) := by decide +kernel
theorem dX11_choose_108 : decode cX11_choose 108 = .ok (.isub, 1) := by decide +kernel
theorem dX11_choose_109 : decode cX11_choose 109 = .ok (.if_icmp .ge 10, 3) := by decide +kernel
theorem dX11_choose_112 : decode cX11_choose 112 = .ok (.aload_n 0, 1) := by decide +kernel
theorem dX11_choose_113 : decode cX11_choose 113 = .ok (.invokevirtual 204, 3) := by decide +kernel
theorem dX11_choose_116 : decode cX11_choose 116 = .ok (.goto 10, 3) := by decide +kernel
theorem dX11_choose_119 : decode cX11_choose 119 = .ok (.aload_n 0, 1) := by decide +kernel
theorem dX11_choose_120 : decode cX11_choose 120 = .ok (.iload_n 2, 1) := by decide +kernel
theorem dX11_choose_121 : decode cX11_choose 121 = .ok (.iload_n 3, 1) := by decide +kernel
theorem dX11_choose_122 : decode cX11_choose 122 = .ok (.isub, 1) := by decide +kernel
theorem dX11_choose_123 : decode cX11_choose 123 = .ok (.invokevirtual 207, 3) := by decide +kernel
theorem dX11_choose_126 : decode cX11_choose 126 = .ok (.istore 4, 2) := by decide +kernel
theorem dX11_choose_128 : decode cX11_choose 128 = .ok (.aload_n 0, 1) := by decide +kernel
theorem dX11_choose_129 : decode cX11_choose 129 = .ok (.getfield 38, 3) := by decide +kernel
theorem dX11_choose_132 : decode cX11_choose 132 = .ok (.iload 4, 2) := by decide +kernel
theorem dX11_choose_134 : decode cX11_choose 134 = .ok (.iconst 1, 1) := by decide +kernel
theorem dX11_choose_135 : decode cX11_choose 135 = .ok (.bastore, 1) := by decide +kernel
theorem dX11_choose_136 : decode cX11_choose 136 = .ok (.iinc 3 1, 3) := by decide +kernel
theorem dX11_choose_139 : decode cX11_choose 139 = .ok (.goto (-50), 3) := by decide +kernel
theorem dX11_choose_142 : decode cX11_choose 142 = .ok (.aload_n 0, 1) := by decide +kernel
theorem dX11_choose_143 : decode cX11_choose 143 = .ok (.iconst 1, 1) := by decide +kernel
theorem dX11_choose_144 : decode cX11_choose 144 = .ok (.putfield 190, 3) := by decide +kernel
theorem dX11_choose_147 : decode cX11_choose 147 = .ok (.aload_n 0, 1) := by decide +kernel
theorem dX11_choose_148 : decode cX11_choose 148 = .ok (.getfield 201, 3) := by decide +kernel
theorem dX11_choose_151 : decode cX11_choose 151 = .ok (.ireturn, 1) := by decide +kernel
theorem dX11_longest_0 : decode cX11_longest 0 = .ok (.iconst (-1), 1) := by decide +kernel
theorem dX11_longest_1 : decode cX11_longest 1 = .ok (.istore_n 1, 1) := by decide +kernel
theorem dX11_longest_2 : decode cX11_longest 2 = .ok (.iconst 0, 1) := by decide +kernel
theorem dX11_longest_3 : decode cX11_longest 3 = .ok (.istore_n 2, 1) := by decide +kernel
theorem dX11_longest_4 : decode cX11_longest 4 = .ok (.iload_n 2, 1) := by decide +kernel
theorem dX11_longest_5 : decode cX11_longest 5 = .ok (.aload_n 0, 1) := by decide +kernel
theorem dX11_longest_6 : decode cX11_longest 6 = .ok (.getfield 177, 3) := by decide +kernel
theorem dX11_longest_9 : decode cX11_longest 9 = .ok (.if_icmp .ge 48, 3) := by decide +kernel
theorem dX11_longest_12 : decode cX11_longest 12 = .ok (.aload_n 0, 1) := by decide +kernel
theorem dX11_longest_13 : decode cX11_longest 13 = .ok (.iload_n 2, 1) := by decide +kernel
theorem dX11_longest_14 : decode cX11_longest 14 = .ok (.invokevirtual 193, 3) := by decide +kernel
theorem dX11_longest_17 : decode cX11_longest 17 = .ok (.ifCond .ne 34, 3) := by decide +kernel
theorem dX11_longest_20 : decode cX11_longest 20 = .ok (.aload_n 0, 1) := by decide +kernel
theorem dX11_longest_21 : decode cX11_longest 21 = .ok (.getfield 38, 3) := by decide +kernel
theorem dX11_longest_24 : decode cX11_longest 24 = .ok (.iload_n 2, 1) := by decide +kernel
theorem dX11_longest_25 : decode cX11_longest 25 = .ok (.baload, 1) := by decide +kernel
theorem dX11_longest_26 : decode cX11_longest 26 = .ok (.ifCond .ne 25, 3) := by decide +kernel
theorem dX11_longest_29 : decode cX11_longest 29 = .ok (.iload_n 1, 1) := by decide +kernel
theorem dX11_longest_30 : decode cX11_longest 30 = .ok (.iconst (-1), 1) := by decide +kernel
theorem dX11_longest_31 : decode cX11_longest 31 = .ok (.if_icmp .eq 18, 3) := by decide +kernel
theorem dX11_longest_34 : decode cX11_longest 34 = .ok (.aload_n 0, 1) := by decide +kernel
theorem dX11_longest_35 : decode cX11_longest 35 = .ok (.getfield 23, 3) := by decide +kernel
theorem dX11_longest_38 : decode cX11_longest 38 = .ok (.iload_n 2, 1) := by decide +kernel
theorem dX11_longest_39 : decode cX11_longest 39 = .ok (.iaload, 1) := by decide +kernel
theorem dX11_longest_40 : decode cX11_longest 40 = .ok (.aload_n 0, 1) := by decide +kernel
theorem dX11_longest_41 : decode cX11_longest 41 = .ok (.getfield 23, 3) := by decide +kernel
theorem dX11_longest_44 : decode cX11_longest 44 = .ok (.iload_n 1, 1) := by decide +kernel
theorem dX11_longest_45 : decode cX11_longest 45 = .ok (.iaload, 1) := by decide +kernel
theorem dX11_longest_46 : decode cX11_longest 46 = .ok (.if_icmp .ge 5, 3) := by decide +kernel
theorem dX11_longest_49 : decode cX11_longest 49 = .ok (.iload_n 2, 1) := by decide +kernel
theorem dX11_longest_50 : decode cX11_longest 50 = .ok (.istore_n 1, 1) := by decide +kernel
theorem dX11_longest_51 : decode cX11_longest 51 = .ok (.iinc 2 1, 3) := by decide +kernel
theorem dX11_longest_54 : decode cX11_longest 54 = .ok (.goto (-50), 3) := by decide +kernel
theorem dX11_longest_57 : decode cX11_longest 57 = .ok (.iload_n 1, 1) := by decide +kernel
theorem dX11_longest_58 : decode cX11_longest 58 = .ok (.ireturn, 1) := by decide +kernel
theorem dX11_drawnWard_0 : decode cX11_drawnWard 0 = .ok (.aload_n 0, 1) := by decide +kernel
theorem dX11_drawnWard_1 : decode cX11_drawnWard 1 = .ok (.iload_n 1, 1) := by decide +kernel
theorem dX11_drawnWard_2 : decode cX11_drawnWard 2 = .ok (.invokevirtual 211, 3) := by decide +kernel
theorem dX11_drawnWard_5 : decode cX11_drawnWard 5 = .ok (.istore_n 2, 1) := by decide +kernel
theorem dX11_drawnWard_6 : decode cX11_drawnWard 6 = .ok (.iconst 0, 1) := by decide +kernel
theorem dX11_drawnWard_7 : decode cX11_drawnWard 7 = .ok (.istore_n 3, 1) := by decide +kernel
theorem dX11_drawnWard_8 : decode cX11_drawnWard 8 = .ok (.aload_n 0, 1) := by decide +kernel
theorem dX11_drawnWard_9 : decode cX11_drawnWard 9 = .ok (.iload_n 3, 1) := by decide +kernel
theorem dX11_drawnWard_10 : decode cX11_drawnWard 10 = .ok (.invokevirtual 193, 3) := by decide +kernel
theorem dX11_drawnWard_13 : decode cX11_drawnWard 13 = .ok (.ifCond .ne 16, 3) := by decide +kernel
theorem dX11_drawnWard_16 : decode cX11_drawnWard 16 = .ok (.aload_n 0, 1) := by decide +kernel
theorem dX11_drawnWard_17 : decode cX11_drawnWard 17 = .ok (.getfield 38, 3) := by decide +kernel
theorem dX11_drawnWard_20 : decode cX11_drawnWard 20 = .ok (.iload_n 3, 1) := by decide +kernel
theorem dX11_drawnWard_21 : decode cX11_drawnWard 21 = .ok (.baload, 1) := by decide +kernel
theorem dX11_drawnWard_22 : decode cX11_drawnWard 22 = .ok (.ifCond .ne 7, 3) := by decide +kernel
theorem dX11_drawnWard_25 : decode cX11_drawnWard 25 = .ok (.iload_n 2, 1) := by decide +kernel
theorem dX11_drawnWard_26 : decode cX11_drawnWard 26 = .ok (.ifCond .le 34, 3) := by decide +kernel
theorem dX11_drawnWard_29 : decode cX11_drawnWard 29 = .ok (.iload_n 2, 1) := by decide +kernel
theorem dX11_drawnWard_30 : decode cX11_drawnWard 30 = .ok (.aload_n 0, 1) := by decide +kernel
theorem dX11_drawnWard_31 : decode cX11_drawnWard 31 = .ok (.iload_n 3, 1) := by decide +kernel
theorem dX11_drawnWard_32 : decode cX11_drawnWard 32 = .ok (.invokevirtual 193, 3) := by decide +kernel
theorem dX11_drawnWard_35 : decode cX11_drawnWard 35 = .ok (.ifCond .ne 12, 3) := by decide +kernel
theorem dX11_drawnWard_38 : decode cX11_drawnWard 38 = .ok (.aload_n 0, 1) := by decide +kernel
theorem dX11_drawnWard_39 : decode cX11_drawnWard 39 = .ok (.getfield 38, 3) := by decide +kernel
theorem dX11_drawnWard_42 : decode cX11_drawnWard 42 = .ok (.iload_n 3, 1) := by decide +kernel
theorem dX11_drawnWard_43 : decode cX11_drawnWard 43 = .ok (.baload, 1) := by decide +kernel
theorem dX11_drawnWard_44 : decode cX11_drawnWard 44 = .ok (.ifCond .eq 7, 3) := by decide +kernel
theorem dX11_drawnWard_47 : decode cX11_drawnWard 47 = .ok (.iconst 0, 1) := by decide +kernel
theorem dX11_drawnWard_48 : decode cX11_drawnWard 48 = .ok (.goto 4, 3) := by decide +kernel
theorem dX11_drawnWard_51 : decode cX11_drawnWard 51 = .ok (.iconst 1, 1) := by decide +kernel
theorem dX11_drawnWard_52 : decode cX11_drawnWard 52 = .ok (.isub, 1) := by decide +kernel
theorem dX11_drawnWard_53 : decode cX11_drawnWard 53 = .ok (.istore_n 2, 1) := by decide +kernel
theorem dX11_drawnWard_54 : decode cX11_drawnWard 54 = .ok (.iinc 3 1, 3) := by decide +kernel
theorem dX11_drawnWard_57 : decode cX11_drawnWard 57 = .ok (.goto (-49), 3) := by decide +kernel
theorem dX11_drawnWard_60 : decode cX11_drawnWard 60 = .ok (.iload_n 3, 1) := by decide +kernel
theorem dX11_drawnWard_61 : decode cX11_drawnWard 61 = .ok (.ireturn, 1) := by decide +kernel
theorem dX11_pick_0 : decode cX11_pick 0 = .ok (.aload_n 0, 1) := by decide +kernel
theorem dX11_pick_1 : decode cX11_pick 1 = .ok (.iconst 0, 1) := by decide +kernel
theorem dX11_pick_2 : decode cX11_pick 2 = .ok (.putfield 102, 3) := by decide +kernel
theorem dX11_pick_5 : decode cX11_pick 5 = .ok (.aload_n 0, 1) := by decide +kernel
theorem dX11_pick_6 : decode cX11_pick 6 = .ok (.getfield 190, 3) := by decide +kernel
theorem dX11_pick_9 : decode cX11_pick 9 = .ok (.iconst 1, 1) := by decide +kernel
theorem dX11_pick_10 : decode cX11_pick 10 = .ok (.if_icmp .eq 5, 3) := by decide +kernel
theorem dX11_pick_13 : decode cX11_pick 13 = .ok (.iconst (-1), 1) := by decide +kernel
theorem dX11_pick_14 : decode cX11_pick 14 = .ok (.ireturn, 1) := by decide +kernel
theorem dX11_pick_15 : decode cX11_pick 15 = .ok (.aload_n 0, 1) := by decide +kernel
theorem dX11_pick_16 : decode cX11_pick 16 = .ok (.iconst (-1), 1) := by decide +kernel
theorem dX11_pick_17 : decode cX11_pick 17 = .ok (.putfield 214, 3) := by decide +kernel
theorem dX11_pick_20 : decode cX11_pick 20 = .ok (.iconst 0, 1) := by decide +kernel
theorem dX11_pick_21 : decode cX11_pick 21 = .ok (.istore_n 1, 1) := by decide +kernel
theorem dX11_pick_22 : decode cX11_pick 22 = .ok (.iload_n 1, 1) := by decide +kernel
theorem dX11_pick_23 : decode cX11_pick 23 = .ok (.iconst 1, 1) := by decide +kernel
theorem dX11_pick_24 : decode cX11_pick 24 = .ok (.aload_n 0, 1) := by decide +kernel
theorem dX11_pick_25 : decode cX11_pick 25 = .ok (.getfield 180, 3) := by decide +kernel
theorem dX11_pick_28 : decode cX11_pick 28 = .ok (.ishl, 1) := by decide +kernel
theorem dX11_pick_29 : decode cX11_pick 29 = .ok (.if_icmp .ge 14, 3) := by decide +kernel
theorem dX11_pick_32 : decode cX11_pick 32 = .ok (.aload_n 0, 1) := by decide +kernel
theorem dX11_pick_33 : decode cX11_pick 33 = .ok (.iload_n 1, 1) := by decide +kernel
theorem dX11_pick_34 : decode cX11_pick 34 = .ok (.invokevirtual 217, 3) := by decide +kernel
theorem dX11_pick_37 : decode cX11_pick 37 = .ok (.iinc 1 1, 3) := by decide +kernel
theorem dX11_pick_40 : decode cX11_pick 40 = .ok (.goto (-18), 3) := by decide +kernel
theorem dX11_pick_43 : decode cX11_pick 43 = .ok (.aload_n 0, 1) := by decide +kernel
theorem dX11_pick_44 : decode cX11_pick 44 = .ok (.getfield 214, 3) := by decide +kernel
theorem dX11_pick_47 : decode cX11_pick 47 = .ok (.iconst (-1), 1) := by decide +kernel
theorem dX11_pick_48 : decode cX11_pick 48 = .ok (.if_icmp .ne 5, 3) := by decide +kernel
theorem dX11_pick_51 : decode cX11_pick 51 = .ok (.iconst (-1), 1) := by decide +kernel
theorem dX11_pick_52 : decode cX11_pick 52 = .ok (.ireturn, 1) := by decide +kernel
theorem dX11_pick_53 : decode cX11_pick 53 = .ok (.aload_n 0, 1) := by decide +kernel
theorem dX11_pick_54 : decode cX11_pick 54 = .ok (.iconst 2, 1) := by decide +kernel
theorem dX11_pick_55 : decode cX11_pick 55 = .ok (.putfield 190, 3) := by decide +kernel
theorem dX11_pick_58 : decode cX11_pick 58 = .ok (.aload_n 0, 1) := by decide +kernel
theorem dX11_pick_59 : decode cX11_pick 59 = .ok (.getfield 214, 3) := by decide +kernel
theorem dX11_pick_62 : decode cX11_pick 62 = .ok (.ireturn, 1) := by decide +kernel
theorem dX11_tries_0 : decode cX11_tries 0 = .ok (.iconst 0, 1) := by decide +kernel
theorem dX11_tries_1 : decode cX11_tries 1 = .ok (.istore_n 2, 1) := by decide +kernel
theorem dX11_tries_2 : decode cX11_tries 2 = .ok (.sipush 1000, 3) := by decide +kernel
theorem dX11_tries_5 : decode cX11_tries 5 = .ok (.istore_n 3, 1) := by decide +kernel
theorem dX11_tries_6 : decode cX11_tries 6 = .ok (.iconst (-1), 1) := by decide +kernel
theorem dX11_tries_7 : decode cX11_tries 7 = .ok (.istore 4, 2) := by decide +kernel
theorem dX11_tries_9 : decode cX11_tries 9 = .ok (.iconst 0, 1) := by decide +kernel
theorem dX11_tries_10 : decode cX11_tries 10 = .ok (.istore 5, 2) := by decide +kernel
theorem dX11_tries_12 : decode cX11_tries 12 = .ok (.iload 5, 2) := by decide +kernel
theorem dX11_tries_14 : decode cX11_tries 14 = .ok (.aload_n 0, 1) := by decide +kernel
theorem dX11_tries_15 : decode cX11_tries 15 = .ok (.getfield 180, 3) := by decide +kernel
theorem dX11_tries_18 : decode cX11_tries 18 = .ok (.if_icmp .ge 61, 3) := by decide +kernel
theorem dX11_tries_21 : decode cX11_tries 21 = .ok (.iload_n 1, 1) := by decide +kernel
theorem dX11_tries_22 : decode cX11_tries 22 = .ok (.iload 5, 2) := by decide +kernel
theorem dX11_tries_24 : decode cX11_tries 24 = .ok (.ishr, 1) := by decide +kernel
theorem dX11_tries_25 : decode cX11_tries 25 = .ok (.iconst 1, 1) := by decide +kernel
theorem dX11_tries_26 : decode cX11_tries 26 = .ok (.iand, 1) := by decide +kernel
theorem dX11_tries_27 : decode cX11_tries 27 = .ok (.ifCond .ne 6, 3) := by decide +kernel
theorem dX11_tries_30 : decode cX11_tries 30 = .ok (.goto 43, 3) := by decide +kernel
theorem dX11_tries_33 : decode cX11_tries 33 = .ok (.aload_n 0, 1) := by decide +kernel
theorem dX11_tries_34 : decode cX11_tries 34 = .ok (.getfield 51, 3) := by decide +kernel
theorem dX11_tries_37 : decode cX11_tries 37 = .ok (.iload 5, 2) := by decide +kernel
theorem dX11_tries_39 : decode cX11_tries 39 = .ok (.baload, 1) := by decide +kernel
theorem dX11_tries_40 : decode cX11_tries 40 = .ok (.ifCond .ne 4, 3) := by decide +kernel
theorem dX11_tries_43 : decode cX11_tries 43 = .ok (.return_, 1) := by decide +kernel
theorem dX11_tries_44 : decode cX11_tries 44 = .ok (.iinc 2 1, 3) := by decide +kernel
theorem dX11_tries_47 : decode cX11_tries 47 = .ok (.iload_n 3, 1) := by decide +kernel
theorem dX11_tries_48 : decode cX11_tries 48 = .ok (.aload_n 0, 1) := by decide +kernel
theorem dX11_tries_49 : decode cX11_tries 49 = .ok (.getfield 48, 3) := by decide +kernel
theorem dX11_tries_52 : decode cX11_tries 52 = .ok (.iload 5, 2) := by decide +kernel
theorem dX11_tries_54 : decode cX11_tries 54 = .ok (.iaload, 1) := by decide +kernel
theorem dX11_tries_55 : decode cX11_tries 55 = .ok (.invokestatic 196, 3) := by decide +kernel
theorem dX11_tries_58 : decode cX11_tries 58 = .ok (.istore_n 3, 1) := by decide +kernel
theorem dX11_tries_59 : decode cX11_tries 59 = .ok (.iload 4, 2) := by decide +kernel
theorem dX11_tries_61 : decode cX11_tries 61 = .ok (.aload_n 0, 1) := by decide +kernel
theorem dX11_tries_62 : decode cX11_tries 62 = .ok (.getfield 48, 3) := by decide +kernel
theorem dX11_tries_65 : decode cX11_tries 65 = .ok (.iload 5, 2) := by decide +kernel
theorem dX11_tries_67 : decode cX11_tries 67 = .ok (.iaload, 1) := by decide +kernel
theorem dX11_tries_68 : decode cX11_tries 68 = .ok (.invokestatic 221, 3) := by decide +kernel
theorem dX11_tries_71 : decode cX11_tries 71 = .ok (.istore 4, 2) := by decide +kernel
theorem dX11_tries_73 : decode cX11_tries 73 = .ok (.iinc 5 1, 3) := by decide +kernel
theorem dX11_tries_76 : decode cX11_tries 76 = .ok (.goto (-64), 3) := by decide +kernel
theorem dX11_tries_79 : decode cX11_tries 79 = .ok (.iload_n 2, 1) := by decide +kernel
theorem dX11_tries_80 : decode cX11_tries 80 = .ok (.aload_n 0, 1) := by decide +kernel
theorem dX11_tries_81 : decode cX11_tries 81 = .ok (.getfield 201, 3) := by decide +kernel
theorem dX11_tries_84 : decode cX11_tries 84 = .ok (.if_icmp .ne 41, 3) := by decide +kernel
theorem dX11_tries_87 : decode cX11_tries 87 = .ok (.aload_n 0, 1) := by decide +kernel
theorem dX11_tries_88 : decode cX11_tries 88 = .ok (.getfield 214, 3) := by decide +kernel
theorem dX11_tries_91 : decode cX11_tries 91 = .ok (.iconst (-1), 1) := by decide +kernel
theorem dX11_tries_92 : decode cX11_tries 92 = .ok (.if_icmp .eq 34, 3) := by decide +kernel
theorem dX11_tries_95 : decode cX11_tries 95 = .ok (.iload 4, 2) := by decide +kernel
theorem dX11_tries_97 : decode cX11_tries 97 = .ok (.iload_n 3, 1) := by decide +kernel
theorem dX11_tries_98 : decode cX11_tries 98 = .ok (.isub, 1) := by decide +kernel
theorem dX11_tries_99 : decode cX11_tries 99 = .ok (.aload_n 0, 1) := by decide +kernel
theorem dX11_tries_100 : decode cX11_tries 100 = .ok (.getfield 214, 3) := by decide +kernel
theorem dX11_tries_103 : decode cX11_tries 103 = .ok (.if_icmp .gt 22, 3) := by decide +kernel
theorem dX11_tries_106 : decode cX11_tries 106 = .ok (.iload 4, 2) := by decide +kernel
theorem dX11_tries_108 : decode cX11_tries 108 = .ok (.iload_n 3, 1) := by decide +kernel
theorem dX11_tries_109 : decode cX11_tries 109 = .ok (.isub, 1) := by decide +kernel
theorem dX11_tries_110 : decode cX11_tries 110 = .ok (.aload_n 0, 1) := by decide +kernel
theorem dX11_tries_111 : decode cX11_tries 111 = .ok (.getfield 214, 3) := by decide +kernel
theorem dX11_tries_114 : decode cX11_tries 114 = .ok (.if_icmp .ne 12, 3) := by decide +kernel
theorem dX11_tries_117 : decode cX11_tries 117 = .ok (.aload_n 0, 1) := by decide +kernel
theorem dX11_tries_118 : decode cX11_tries 118 = .ok (.iload_n 1, 1) := by decide +kernel
theorem dX11_tries_119 : decode cX11_tries 119 = .ok (.invokevirtual 224, 3) := by decide +kernel
theorem dX11_tries_122 : decode cX11_tries 122 = .ok (.ifCond .ne 4, 3) := by decide +kernel
theorem dX11_tries_125 : decode cX11_tries 125 = .ok (.return_, 1) := by decide +kernel
theorem dX11_tries_126 : decode cX11_tries 126 = .ok (.aload_n 0, 1) := by decide +kernel
theorem dX11_tries_127 : decode cX11_tries 127 = .ok (.iload 4, 2) := by decide +kernel
theorem dX11_tries_129 : decode cX11_tries 129 = .ok (.iload_n 3, 1) := by decide +kernel
theorem dX11_tries_130 : decode cX11_tries 130 = .ok (.isub, 1) := by decide +kernel
theorem dX11_tries_131 : decode cX11_tries 131 = .ok (.putfield 214, 3) := by decide +kernel
theorem dX11_tries_134 : decode cX11_tries 134 = .ok (.iconst 0, 1) := by decide +kernel
theorem dX11_tries_135 : decode cX11_tries 135 = .ok (.istore 5, 2) := by decide +kernel
theorem dX11_tries_137 : decode cX11_tries 137 = .ok (.iconst 0, 1) := by decide +kernel
theorem dX11_tries_138 : decode cX11_tries 138 = .ok (.istore 6, 2) := by decide +kernel
theorem dX11_tries_140 : decode cX11_tries 140 = .ok (.iload 6, 2) := by decide +kernel
theorem dX11_tries_142 : decode cX11_tries 142 = .ok (.aload_n 0, 1) := by decide +kernel
theorem dX11_tries_143 : decode cX11_tries 143 = .ok (.getfield 180, 3) := by decide +kernel
theorem dX11_tries_146 : decode cX11_tries 146 = .ok (.if_icmp .ge 33, 3) := by decide +kernel
theorem dX11_tries_149 : decode cX11_tries 149 = .ok (.iload_n 1, 1) := by decide +kernel
theorem dX11_tries_150 : decode cX11_tries 150 = .ok (.iload 6, 2) := by decide +kernel
theorem dX11_tries_152 : decode cX11_tries 152 = .ok (.ishr, 1) := by decide +kernel
theorem dX11_tries_153 : decode cX11_tries 153 = .ok (.iconst 1, 1) := by decide +kernel
theorem dX11_tries_154 : decode cX11_tries 154 = .ok (.iand, 1) := by decide +kernel
theorem dX11_tries_155 : decode cX11_tries 155 = .ok (.ifCond .ne 6, 3) := by decide +kernel
theorem dX11_tries_158 : decode cX11_tries 158 = .ok (.goto 15, 3) := by decide +kernel
theorem dX11_tries_161 : decode cX11_tries 161 = .ok (.aload_n 0, 1) := by decide +kernel
theorem dX11_tries_162 : decode cX11_tries 162 = .ok (.getfield 54, 3) := by decide +kernel
theorem dX11_tries_165 : decode cX11_tries 165 = .ok (.iload 5, 2) := by decide +kernel
theorem dX11_tries_167 : decode cX11_tries 167 = .ok (.iload 6, 2) := by decide +kernel
theorem dX11_tries_169 : decode cX11_tries 169 = .ok (.iastore, 1) := by decide +kernel
theorem dX11_tries_170 : decode cX11_tries 170 = .ok (.iinc 5 1, 3) := by decide +kernel
theorem dX11_tries_173 : decode cX11_tries 173 = .ok (.iinc 6 1, 3) := by decide +kernel
theorem dX11_tries_176 : decode cX11_tries 176 = .ok (.goto (-36), 3) := by decide +kernel
theorem dX11_tries_179 : decode cX11_tries 179 = .ok (.return_, 1) := by decide +kernel
theorem dX11_isAhead_0 : decode cX11_isAhead 0 = .ok (.iconst 0, 1) := by decide +kernel
theorem dX11_isAhead_1 : decode cX11_isAhead 1 = .ok (.istore_n 2, 1) := by decide +kernel
theorem dX11_isAhead_2 : decode cX11_isAhead 2 = .ok (.iconst 0, 1) := by decide +kernel
theorem dX11_isAhead_3 : decode cX11_isAhead 3 = .ok (.istore_n 3, 1) := by decide +kernel
theorem dX11_isAhead_4 : decode cX11_isAhead 4 = .ok (.iload_n 3, 1) := by decide +kernel
theorem dX11_isAhead_5 : decode cX11_isAhead 5 = .ok (.aload_n 0, 1) := by decide +kernel
theorem dX11_isAhead_6 : decode cX11_isAhead 6 = .ok (.getfield 180, 3) := by decide +kernel
theorem dX11_isAhead_9 : decode cX11_isAhead 9 = .ok (.if_icmp .ge 49, 3) := by decide +kernel
theorem dX11_isAhead_12 : decode cX11_isAhead 12 = .ok (.iload_n 1, 1) := by decide +kernel
theorem dX11_isAhead_13 : decode cX11_isAhead 13 = .ok (.iload_n 3, 1) := by decide +kernel
theorem dX11_isAhead_14 : decode cX11_isAhead 14 = .ok (.ishr, 1) := by decide +kernel
theorem dX11_isAhead_15 : decode cX11_isAhead 15 = .ok (.iconst 1, 1) := by decide +kernel
theorem dX11_isAhead_16 : decode cX11_isAhead 16 = .ok (.iand, 1) := by decide +kernel
theorem dX11_isAhead_17 : decode cX11_isAhead 17 = .ok (.ifCond .ne 6, 3) := by decide +kernel
theorem dX11_isAhead_20 : decode cX11_isAhead 20 = .ok (.goto 32, 3) := by decide +kernel
theorem dX11_isAhead_23 : decode cX11_isAhead 23 = .ok (.aload_n 0, 1) := by decide +kernel
theorem dX11_isAhead_24 : decode cX11_isAhead 24 = .ok (.getfield 54, 3) := by decide +kernel
theorem dX11_isAhead_27 : decode cX11_isAhead 27 = .ok (.iload_n 2, 1) := by decide +kernel
theorem dX11_isAhead_28 : decode cX11_isAhead 28 = .ok (.iaload, 1) := by decide +kernel
theorem dX11_isAhead_29 : decode cX11_isAhead 29 = .ok (.iload_n 3, 1) := by decide +kernel
theorem dX11_isAhead_30 : decode cX11_isAhead 30 = .ok (.if_icmp .eq 19, 3) := by decide +kernel
theorem dX11_isAhead_33 : decode cX11_isAhead 33 = .ok (.iload_n 3, 1) := by decide +kernel
theorem dX11_isAhead_34 : decode cX11_isAhead 34 = .ok (.aload_n 0, 1) := by decide +kernel
theorem dX11_isAhead_35 : decode cX11_isAhead 35 = .ok (.getfield 54, 3) := by decide +kernel
theorem dX11_isAhead_38 : decode cX11_isAhead 38 = .ok (.iload_n 2, 1) := by decide +kernel
theorem dX11_isAhead_39 : decode cX11_isAhead 39 = .ok (.iaload, 1) := by decide +kernel
theorem dX11_isAhead_40 : decode cX11_isAhead 40 = .ok (.if_icmp .ge 7, 3) := by decide +kernel
theorem dX11_isAhead_43 : decode cX11_isAhead 43 = .ok (.iconst 1, 1) := by decide +kernel
theorem dX11_isAhead_44 : decode cX11_isAhead 44 = .ok (.goto 4, 3) := by decide +kernel
theorem dX11_isAhead_47 : decode cX11_isAhead 47 = .ok (.iconst 0, 1) := by decide +kernel
theorem dX11_isAhead_48 : decode cX11_isAhead 48 = .ok (.ireturn, 1) := by decide +kernel
theorem dX11_isAhead_49 : decode cX11_isAhead 49 = .ok (.iinc 2 1, 3) := by decide +kernel
theorem dX11_isAhead_52 : decode cX11_isAhead 52 = .ok (.iinc 3 1, 3) := by decide +kernel
theorem dX11_isAhead_55 : decode cX11_isAhead 55 = .ok (.goto (-51), 3) := by decide +kernel
theorem dX11_isAhead_58 : decode cX11_isAhead 58 = .ok (.iconst 0, 1) := by decide +kernel
theorem dX11_isAhead_59 : decode cX11_isAhead 59 = .ok (.ireturn, 1) := by decide +kernel
theorem dX11_lots_0 : decode cX11_lots 0 = .ok (.aload_n 0, 1) := by decide +kernel
theorem dX11_lots_1 : decode cX11_lots 1 = .ok (.iconst 0, 1) := by decide +kernel
theorem dX11_lots_2 : decode cX11_lots 2 = .ok (.putfield 102, 3) := by decide +kernel
theorem dX11_lots_5 : decode cX11_lots 5 = .ok (.aload_n 0, 1) := by decide +kernel
theorem dX11_lots_6 : decode cX11_lots 6 = .ok (.getfield 190, 3) := by decide +kernel
theorem dX11_lots_9 : decode cX11_lots 9 = .ok (.iconst 2, 1) := by decide +kernel
theorem dX11_lots_10 : decode cX11_lots 10 = .ok (.if_icmp .eq 5, 3) := by decide +kernel
theorem dX11_lots_13 : decode cX11_lots 13 = .ok (.iconst 0, 1) := by decide +kernel
theorem dX11_lots_14 : decode cX11_lots 14 = .ok (.ireturn, 1) := by decide +kernel
theorem dX11_lots_15 : decode cX11_lots 15 = .ok (.aload_n 0, 1) := by decide +kernel
theorem dX11_lots_16 : decode cX11_lots 16 = .ok (.iload_n 1, 1) := by decide +kernel
theorem dX11_lots_17 : decode cX11_lots 17 = .ok (.putfield 184, 3) := by decide +kernel
theorem dX11_lots_20 : decode cX11_lots 20 = .ok (.iconst 0, 1) := by decide +kernel
theorem dX11_lots_21 : decode cX11_lots 21 = .ok (.istore_n 2, 1) := by decide +kernel
theorem dX11_lots_22 : decode cX11_lots 22 = .ok (.aload_n 0, 1) := by decide +kernel
theorem dX11_lots_23 : decode cX11_lots 23 = .ok (.getfield 201, 3) := by decide +kernel
theorem dX11_lots_26 : decode cX11_lots 26 = .ok (.istore_n 3, 1) := by decide +kernel
theorem dX11_lots_27 : decode cX11_lots 27 = .ok (.iconst 0, 1) := by decide +kernel
theorem dX11_lots_28 : decode cX11_lots 28 = .ok (.istore 4, 2) := by decide +kernel
theorem dX11_lots_30 : decode cX11_lots 30 = .ok (.iload 4, 2) := by decide +kernel
theorem dX11_lots_32 : decode cX11_lots 32 = .ok (.aload_n 0, 1) := by decide +kernel
theorem dX11_lots_33 : decode cX11_lots 33 = .ok (.getfield 177, 3) := by decide +kernel
theorem dX11_lots_36 : decode cX11_lots 36 = .ok (.if_icmp .ge 97, 3) := by decide +kernel
theorem dX11_lots_39 : decode cX11_lots 39 = .ok (.aload_n 0, 1) := by decide +kernel
theorem dX11_lots_40 : decode cX11_lots 40 = .ok (.getfield 38, 3) := by decide +kernel
theorem dX11_lots_43 : decode cX11_lots 43 = .ok (.iload 4, 2) := by decide +kernel
theorem dX11_lots_45 : decode cX11_lots 45 = .ok (.baload, 1) := by decide +kernel
theorem dX11_lots_46 : decode cX11_lots 46 = .ok (.ifCond .ne 6, 3) := by decide +kernel
theorem dX11_lots_49 : decode cX11_lots 49 = .ok (.goto 78, 3) := by decide +kernel
theorem dX11_lots_52 : decode cX11_lots 52 = .ok (.aload_n 0, 1) := by decide +kernel
theorem dX11_lots_53 : decode cX11_lots 53 = .ok (.iload_n 3, 1) := by decide +kernel
theorem dX11_lots_54 : decode cX11_lots 54 = .ok (.invokevirtual 211, 3) := by decide +kernel
theorem dX11_lots_57 : decode cX11_lots 57 = .ok (.istore 5, 2) := by decide +kernel
theorem dX11_lots_59 : decode cX11_lots 59 = .ok (.iconst 0, 1) := by decide +kernel
theorem dX11_lots_60 : decode cX11_lots 60 = .ok (.istore 6, 2) := by decide +kernel
theorem dX11_lots_62 : decode cX11_lots 62 = .ok (.iload_n 2, 1) := by decide +kernel
theorem dX11_lots_63 : decode cX11_lots 63 = .ok (.iload 6, 2) := by decide +kernel
theorem dX11_lots_65 : decode cX11_lots 65 = .ok (.ishr, 1) := by decide +kernel
theorem dX11_lots_66 : decode cX11_lots 66 = .ok (.iconst 1, 1) := by decide +kernel
theorem dX11_lots_67 : decode cX11_lots 67 = .ok (.iand, 1) := by decide +kernel
theorem dX11_lots_68 : decode cX11_lots 68 = .ok (.iconst 1, 1) := by decide +kernel
theorem dX11_lots_69 : decode cX11_lots 69 = .ok (.if_icmp .eq 8, 3) := by decide +kernel
theorem dX11_lots_72 : decode cX11_lots 72 = .ok (.iload 5, 2) := by decide +kernel
theorem dX11_lots_74 : decode cX11_lots 74 = .ok (.ifCond .le 29, 3) := by decide +kernel
theorem dX11_lots_77 : decode cX11_lots 77 = .ok (.iload 5, 2) := by decide +kernel
theorem dX11_lots_79 : decode cX11_lots 79 = .ok (.iload_n 2, 1) := by decide +kernel
theorem dX11_lots_80 : decode cX11_lots 80 = .ok (.iload 6, 2) := by decide +kernel
theorem dX11_lots_82 : decode cX11_lots 82 = .ok (.ishr, 1) := by decide +kernel
theorem dX11_lots_83 : decode cX11_lots 83 = .ok (.iconst 1, 1) := by decide +kernel
theorem dX11_lots_84 : decode cX11_lots 84 = .ok (.iand, 1) := by decide +kernel
theorem dX11_lots_85 : decode cX11_lots 85 = .ok (.iconst 1, 1) := by decide +kernel
theorem dX11_lots_86 : decode cX11_lots 86 = .ok (.if_icmp .ne 7, 3) := by decide +kernel
theorem dX11_lots_89 : decode cX11_lots 89 = .ok (.iconst 0, 1) := by decide +kernel
theorem dX11_lots_90 : decode cX11_lots 90 = .ok (.goto 4, 3) := by decide +kernel
theorem dX11_lots_93 : decode cX11_lots 93 = .ok (.iconst 1, 1) := by decide +kernel
theorem dX11_lots_94 : decode cX11_lots 94 = .ok (.isub, 1) := by decide +kernel
theorem dX11_lots_95 : decode cX11_lots 95 = .ok (.istore 5, 2) := by decide +kernel
theorem dX11_lots_97 : decode cX11_lots 97 = .ok (.iinc 6 1, 3) := by decide +kernel
theorem dX11_lots_100 : decode cX11_lots 100 = .ok (.goto (-38), 3) := by decide +kernel
theorem dX11_lots_103 : decode cX11_lots 103 = .ok (.iload_n 2, 1) := by decide +kernel
theorem dX11_lots_104 : decode cX11_lots 104 = .ok (.iconst 1, 1) := by decide +kernel
theorem dX11_lots_105 : decode cX11_lots 105 = .ok (.iload 6, 2) := by decide +kernel
theorem dX11_lots_107 : decode cX11_lots 107 = .ok (.ishl, 1) := by decide +kernel
theorem dX11_lots_108 : decode cX11_lots 108 = .ok (.ior, 1) := by decide +kernel
theorem dX11_lots_109 : decode cX11_lots 109 = .ok (.istore_n 2, 1) := by decide +kernel
theorem dX11_lots_110 : decode cX11_lots 110 = .ok (.aload_n 0, 1) := by decide +kernel
theorem dX11_lots_111 : decode cX11_lots 111 = .ok (.getfield 35, 3) := by decide +kernel
theorem dX11_lots_114 : decode cX11_lots 114 = .ok (.iload 4, 2) := by decide +kernel
theorem dX11_lots_116 : decode cX11_lots 116 = .ok (.aload_n 0, 1) := by decide +kernel
theorem dX11_lots_117 : decode cX11_lots 117 = .ok (.getfield 54, 3) := by decide +kernel
theorem dX11_lots_120 : decode cX11_lots 120 = .ok (.iload 6, 2) := by decide +kernel
theorem dX11_lots_122 : decode cX11_lots 122 = .ok (.iaload, 1) := by decide +kernel
theorem dX11_lots_123 : decode cX11_lots 123 = .ok (.iastore, 1) := by decide +kernel
theorem dX11_lots_124 : decode cX11_lots 124 = .ok (.iinc 3 (-1), 3) := by decide +kernel
theorem dX11_lots_127 : decode cX11_lots 127 = .ok (.iinc 4 1, 3) := by decide +kernel
theorem dX11_lots_130 : decode cX11_lots 130 = .ok (.goto (-100), 3) := by decide +kernel
theorem dX11_lots_133 : decode cX11_lots 133 = .ok (.iconst 0, 1) := by decide +kernel
theorem dX11_lots_134 : decode cX11_lots 134 = .ok (.istore_n 2, 1) := by decide +kernel
theorem dX11_lots_135 : decode cX11_lots 135 = .ok (.iconst 0, 1) := by decide +kernel
theorem dX11_lots_136 : decode cX11_lots 136 = .ok (.istore 4, 2) := by decide +kernel
theorem dX11_lots_138 : decode cX11_lots 138 = .ok (.iload 4, 2) := by decide +kernel
theorem dX11_lots_140 : decode cX11_lots 140 = .ok (.aload_n 0, 1) := by decide +kernel
theorem dX11_lots_141 : decode cX11_lots 141 = .ok (.getfield 201, 3) := by decide +kernel
theorem dX11_lots_144 : decode cX11_lots 144 = .ok (.if_icmp .ge 111, 3) := by decide +kernel
theorem dX11_lots_147 : decode cX11_lots 147 = .ok (.aload_n 0, 1) := by decide +kernel
theorem dX11_lots_148 : decode cX11_lots 148 = .ok (.aload_n 0, 1) := by decide +kernel
theorem dX11_lots_149 : decode cX11_lots 149 = .ok (.getfield 201, 3) := by decide +kernel
theorem dX11_lots_152 : decode cX11_lots 152 = .ok (.iload 4, 2) := by decide +kernel
theorem dX11_lots_154 : decode cX11_lots 154 = .ok (.isub, 1) := by decide +kernel
theorem dX11_lots_155 : decode cX11_lots 155 = .ok (.invokevirtual 211, 3) := by decide +kernel
theorem dX11_lots_158 : decode cX11_lots 158 = .ok (.istore 5, 2) := by decide +kernel
theorem dX11_lots_160 : decode cX11_lots 160 = .ok (.iconst 0, 1) := by decide +kernel
theorem dX11_lots_161 : decode cX11_lots 161 = .ok (.istore 6, 2) := by decide +kernel
theorem dX11_lots_163 : decode cX11_lots 163 = .ok (.aload_n 0, 1) := by decide +kernel
theorem dX11_lots_164 : decode cX11_lots 164 = .ok (.getfield 38, 3) := by decide +kernel
theorem dX11_lots_167 : decode cX11_lots 167 = .ok (.iload 6, 2) := by decide +kernel
theorem dX11_lots_169 : decode cX11_lots 169 = .ok (.baload, 1) := by decide +kernel
theorem dX11_lots_170 : decode cX11_lots 170 = .ok (.ifCond .eq 18, 3) := by decide +kernel
theorem dX11_lots_173 : decode cX11_lots 173 = .ok (.iload_n 2, 1) := by decide +kernel
theorem dX11_lots_174 : decode cX11_lots 174 = .ok (.iload 6, 2) := by decide +kernel
theorem dX11_lots_176 : decode cX11_lots 176 = .ok (.ishr, 1) := by decide +kernel
theorem dX11_lots_177 : decode cX11_lots 177 = .ok (.iconst 1, 1) := by decide +kernel
theorem dX11_lots_178 : decode cX11_lots 178 = .ok (.iand, 1) := by decide +kernel
theorem dX11_lots_179 : decode cX11_lots 179 = .ok (.iconst 1, 1) := by decide +kernel
theorem dX11_lots_180 : decode cX11_lots 180 = .ok (.if_icmp .eq 8, 3) := by decide +kernel
theorem dX11_lots_183 : decode cX11_lots 183 = .ok (.iload 5, 2) := by decide +kernel
theorem dX11_lots_185 : decode cX11_lots 185 = .ok (.ifCond .le 39, 3) := by decide +kernel
theorem dX11_lots_188 : decode cX11_lots 188 = .ok (.iload 5, 2) := by decide +kernel
theorem dX11_lots_190 : decode cX11_lots 190 = .ok (.aload_n 0, 1) := by decide +kernel
theorem dX11_lots_191 : decode cX11_lots 191 = .ok (.getfield 38, 3) := by decide +kernel
theorem dX11_lots_194 : decode cX11_lots 194 = .ok (.iload 6, 2) := by decide +kernel
theorem dX11_lots_196 : decode cX11_lots 196 = .ok (.baload, 1) := by decide +kernel
theorem dX11_lots_197 : decode cX11_lots 197 = .ok (.ifCond .eq 13, 3) := by decide +kernel
theorem dX11_lots_200 : decode cX11_lots 200 = .ok (.iload_n 2, 1) := by decide +kernel
theorem dX11_lots_201 : decode cX11_lots 201 = .ok (.iload 6, 2) := by decide +kernel
theorem dX11_lots_203 : decode cX11_lots 203 = .ok (.ishr, 1) := by decide +kernel
theorem dX11_lots_204 : decode cX11_lots 204 = .ok (.iconst 1, 1) := by decide +kernel
theorem dX11_lots_205 : decode cX11_lots 205 = .ok (.iand, 1) := by decide +kernel
theorem dX11_lots_206 : decode cX11_lots 206 = .ok (.iconst 1, 1) := by decide +kernel
theorem dX11_lots_207 : decode cX11_lots 207 = .ok (.if_icmp .ne 7, 3) := by decide +kernel
theorem dX11_lots_210 : decode cX11_lots 210 = .ok (.iconst 0, 1) := by decide +kernel
theorem dX11_lots_211 : decode cX11_lots 211 = .ok (.goto 4, 3) := by decide +kernel
theorem dX11_lots_214 : decode cX11_lots 214 = .ok (.iconst 1, 1) := by decide +kernel
theorem dX11_lots_215 : decode cX11_lots 215 = .ok (.isub, 1) := by decide +kernel
theorem dX11_lots_216 : decode cX11_lots 216 = .ok (.istore 5, 2) := by decide +kernel
theorem dX11_lots_218 : decode cX11_lots 218 = .ok (.iinc 6 1, 3) := by decide +kernel
theorem dX11_lots_221 : decode cX11_lots 221 = .ok (.goto (-58), 3) := by decide +kernel
theorem dX11_lots_224 : decode cX11_lots 224 = .ok (.iload_n 2, 1) := by decide +kernel
theorem dX11_lots_225 : decode cX11_lots 225 = .ok (.iconst 1, 1) := by decide +kernel
theorem dX11_lots_226 : decode cX11_lots 226 = .ok (.iload 6, 2) := by decide +kernel
theorem dX11_lots_228 : decode cX11_lots 228 = .ok (.ishl, 1) := by decide +kernel
theorem dX11_lots_229 : decode cX11_lots 229 = .ok (.ior, 1) := by decide +kernel
theorem dX11_lots_230 : decode cX11_lots 230 = .ok (.istore_n 2, 1) := by decide +kernel
theorem dX11_lots_231 : decode cX11_lots 231 = .ok (.aload_n 0, 1) := by decide +kernel
theorem dX11_lots_232 : decode cX11_lots 232 = .ok (.getfield 57, 3) := by decide +kernel
theorem dX11_lots_235 : decode cX11_lots 235 = .ok (.iload 4, 2) := by decide +kernel
theorem dX11_lots_237 : decode cX11_lots 237 = .ok (.iload 6, 2) := by decide +kernel
theorem dX11_lots_239 : decode cX11_lots 239 = .ok (.iastore, 1) := by decide +kernel
theorem dX11_lots_240 : decode cX11_lots 240 = .ok (.aload_n 0, 1) := by decide +kernel
theorem dX11_lots_241 : decode cX11_lots 241 = .ok (.getfield 60, 3) := by decide +kernel
theorem dX11_lots_244 : decode cX11_lots 244 = .ok (.iload 4, 2) := by decide +kernel
theorem dX11_lots_246 : decode cX11_lots 246 = .ok (.iload 6, 2) := by decide +kernel
theorem dX11_lots_248 : decode cX11_lots 248 = .ok (.iastore, 1) := by decide +kernel
theorem dX11_lots_249 : decode cX11_lots 249 = .ok (.iinc 4 1, 3) := by decide +kernel
theorem dX11_lots_252 : decode cX11_lots 252 = .ok (.goto (-114), 3) := by decide +kernel
theorem dX11_lots_255 : decode cX11_lots 255 = .ok (.aload_n 0, 1) := by decide +kernel
theorem dX11_lots_256 : decode cX11_lots 256 = .ok (.iconst 3, 1) := by decide +kernel
theorem dX11_lots_257 : decode cX11_lots 257 = .ok (.putfield 190, 3) := by decide +kernel
theorem dX11_lots_260 : decode cX11_lots 260 = .ok (.iconst 1, 1) := by decide +kernel
theorem dX11_lots_261 : decode cX11_lots 261 = .ok (.ireturn, 1) := by decide +kernel
theorem dX11_drawn_0 : decode cX11_drawn 0 = .ok (.aload_n 0, 1) := by decide +kernel
theorem dX11_drawn_1 : decode cX11_drawn 1 = .ok (.iconst 0, 1) := by decide +kernel
theorem dX11_drawn_2 : decode cX11_drawn 2 = .ok (.putfield 102, 3) := by decide +kernel
theorem dX11_drawn_5 : decode cX11_drawn 5 = .ok (.iload_n 1, 1) := by decide +kernel
theorem dX11_drawn_6 : decode cX11_drawn 6 = .ok (.ifCond .lt 28, 3) := by decide +kernel
theorem dX11_drawn_9 : decode cX11_drawn 9 = .ok (.iload_n 1, 1) := by decide +kernel
theorem dX11_drawn_10 : decode cX11_drawn 10 = .ok (.iconst 2, 1) := by decide +kernel
theorem dX11_drawn_11 : decode cX11_drawn 11 = .ok (.if_icmp .gt 23, 3) := by decide +kernel
theorem dX11_drawn_14 : decode cX11_drawn 14 = .ok (.aload_n 0, 1) := by decide +kernel
theorem dX11_drawn_15 : decode cX11_drawn 15 = .ok (.getfield 190, 3) := by decide +kernel
theorem dX11_drawn_18 : decode cX11_drawn 18 = .ok (.iload_n 1, 1) := by decide +kernel
theorem dX11_drawn_19 : decode cX11_drawn 19 = .ok (.if_icmp .le 15, 3) := by decide +kernel
theorem dX11_drawn_22 : decode cX11_drawn 22 = .ok (.iload_n 2, 1) := by decide +kernel
theorem dX11_drawn_23 : decode cX11_drawn 23 = .ok (.ifCond .lt 11, 3) := by decide +kernel
theorem dX11_drawn_26 : decode cX11_drawn 26 = .ok (.iload_n 2, 1) := by decide +kernel
theorem dX11_drawn_27 : decode cX11_drawn 27 = .ok (.aload_n 0, 1) := by decide +kernel
theorem dX11_drawn_28 : decode cX11_drawn 28 = .ok (.getfield 201, 3) := by decide +kernel
theorem dX11_drawn_31 : decode cX11_drawn 31 = .ok (.if_icmp .lt 5, 3) := by decide +kernel
theorem dX11_drawn_34 : decode cX11_drawn 34 = .ok (.iconst (-1), 1) := by decide +kernel
theorem dX11_drawn_35 : decode cX11_drawn 35 = .ok (.ireturn, 1) := by decide +kernel
theorem dX11_drawn_36 : decode cX11_drawn 36 = .ok (.iload_n 1, 1) := by decide +kernel
theorem dX11_drawn_37 : decode cX11_drawn 37 = .ok (.iconst 1, 1) := by decide +kernel
theorem dX11_drawn_38 : decode cX11_drawn 38 = .ok (.if_icmp .ne 10, 3) := by decide +kernel
theorem dX11_drawn_41 : decode cX11_drawn 41 = .ok (.aload_n 0, 1) := by decide +kernel
theorem dX11_drawn_42 : decode cX11_drawn 42 = .ok (.getfield 54, 3) := by decide +kernel
theorem dX11_drawn_45 : decode cX11_drawn 45 = .ok (.iload_n 2, 1) := by decide +kernel
theorem dX11_drawn_46 : decode cX11_drawn 46 = .ok (.iaload, 1) := by decide +kernel
theorem dX11_drawn_47 : decode cX11_drawn 47 = .ok (.ireturn, 1) := by decide +kernel
theorem dX11_drawn_48 : decode cX11_drawn 48 = .ok (.iload_n 1, 1) := by decide +kernel
theorem dX11_drawn_49 : decode cX11_drawn 49 = .ok (.iconst 2, 1) := by decide +kernel
theorem dX11_drawn_50 : decode cX11_drawn 50 = .ok (.if_icmp .ne 10, 3) := by decide +kernel
theorem dX11_drawn_53 : decode cX11_drawn 53 = .ok (.aload_n 0, 1) := by decide +kernel
theorem dX11_drawn_54 : decode cX11_drawn 54 = .ok (.getfield 57, 3) := by decide +kernel
theorem dX11_drawn_57 : decode cX11_drawn 57 = .ok (.iload_n 2, 1) := by decide +kernel
theorem dX11_drawn_58 : decode cX11_drawn 58 = .ok (.iaload, 1) := by decide +kernel
theorem dX11_drawn_59 : decode cX11_drawn 59 = .ok (.ireturn, 1) := by decide +kernel
theorem dX11_drawn_60 : decode cX11_drawn 60 = .ok (.iload_n 2, 1) := by decide +kernel
theorem dX11_drawn_61 : decode cX11_drawn 61 = .ok (.istore_n 3, 1) := by decide +kernel
theorem dX11_drawn_62 : decode cX11_drawn 62 = .ok (.iconst 0, 1) := by decide +kernel
theorem dX11_drawn_63 : decode cX11_drawn 63 = .ok (.istore 4, 2) := by decide +kernel
theorem dX11_drawn_65 : decode cX11_drawn 65 = .ok (.aload_n 0, 1) := by decide +kernel
theorem dX11_drawn_66 : decode cX11_drawn 66 = .ok (.getfield 38, 3) := by decide +kernel
theorem dX11_drawn_69 : decode cX11_drawn 69 = .ok (.iload 4, 2) := by decide +kernel
theorem dX11_drawn_71 : decode cX11_drawn 71 = .ok (.baload, 1) := by decide +kernel
theorem dX11_drawn_72 : decode cX11_drawn 72 = .ok (.ifCond .eq 7, 3) := by decide +kernel
theorem dX11_drawn_75 : decode cX11_drawn 75 = .ok (.iload_n 3, 1) := by decide +kernel
theorem dX11_drawn_76 : decode cX11_drawn 76 = .ok (.ifCond .le 27, 3) := by decide +kernel
theorem dX11_drawn_79 : decode cX11_drawn 79 = .ok (.iload_n 3, 1) := by decide +kernel
