theorem dX11_back_9 : decode cX11_back 9 = .ok (.if_icmp .gt 44, 3) := by decide +kernel
theorem dX11_back_12 : decode cX11_back 12 = .ok (.iload_n 1, 1) := by decide +kernel
theorem dX11_back_13 : decode cX11_back 13 = .ok (.aload_n 0, 1) := by decide +kernel
theorem dX11_back_14 : decode cX11_back 14 = .ok (.getfield 81, 3) := by decide +kernel
theorem dX11_back_17 : decode cX11_back 17 = .ok (.if_icmp .gt 36, 3) := by decide +kernel
theorem dX11_back_20 : decode cX11_back 20 = .ok (.aload_n 0, 1) := by decide +kernel
theorem dX11_back_21 : decode cX11_back 21 = .ok (.getfield 81, 3) := by decide +kernel
theorem dX11_back_24 : decode cX11_back 24 = .ok (.sipush 256, 3) := by decide +kernel
theorem dX11_back_27 : decode cX11_back 27 = .ok (.if_icmp .gt 26, 3) := by decide +kernel
theorem dX11_back_30 : decode cX11_back 30 = .ok (.aload_n 0, 1) := by decide +kernel
theorem dX11_back_31 : decode cX11_back 31 = .ok (.getfield 103, 3) := by decide +kernel
theorem dX11_back_34 : decode cX11_back 34 = .ok (.ifCond .ne 19, 3) := by decide +kernel
theorem dX11_back_37 : decode cX11_back 37 = .ok (.aload_n 0, 1) := by decide +kernel
theorem dX11_back_38 : decode cX11_back 38 = .ok (.getfield 96, 3) := by decide +kernel
theorem dX11_back_41 : decode cX11_back 41 = .ok (.ifCond .ne 12, 3) := by decide +kernel
theorem dX11_back_44 : decode cX11_back 44 = .ok (.iload_n 2, 1) := by decide +kernel
theorem dX11_back_45 : decode cX11_back 45 = .ok (.ifCond .lt 8, 3) := by decide +kernel
theorem dX11_back_48 : decode cX11_back 48 = .ok (.iload_n 2, 1) := by decide +kernel
theorem dX11_back_49 : decode cX11_back 49 = .ok (.iconst 1, 1) := by decide +kernel
theorem dX11_back_50 : decode cX11_back 50 = .ok (.if_icmp .le 6, 3) := by decide +kernel
theorem dX11_back_53 : decode cX11_back 53 = .ok (.ldc 151, 2) := by decide +kernel
theorem dX11_back_55 : decode cX11_back 55 = .ok (.ireturn, 1) := by decide +kernel
theorem dX11_back_56 : decode cX11_back 56 = .ok (.ldc2_w 171, 3) := by decide +kernel
theorem dX11_back_59 : decode cX11_back 59 = .ok (.lstore_n 3, 1) := by decide +kernel
theorem dX11_back_60 : decode cX11_back 60 = .ok (.ldc2_w 173, 3) := by decide +kernel
theorem dX11_back_63 : decode cX11_back 63 = .ok (.lstore 5, 2) := by decide +kernel
theorem dX11_back_65 : decode cX11_back 65 = .ok (.lconst 0, 1) := by decide +kernel
theorem dX11_back_66 : decode cX11_back 66 = .ok (.lstore 7, 2) := by decide +kernel
theorem dX11_back_68 : decode cX11_back 68 = .ok (.iconst 0, 1) := by decide +kernel
theorem dX11_back_69 : decode cX11_back 69 = .ok (.istore 9, 2) := by decide +kernel
theorem dX11_back_71 : decode cX11_back 71 = .ok (.iload 9, 2) := by decide +kernel
theorem dX11_back_73 : decode cX11_back 73 = .ok (.iload_n 1, 1) := by decide +kernel
theorem dX11_back_74 : decode cX11_back 74 = .ok (.if_icmp .ge 155, 3) := by decide +kernel
theorem dX11_back_77 : decode cX11_back 77 = .ok (.aload_n 0, 1) := by decide +kernel
theorem dX11_back_78 : decode cX11_back 78 = .ok (.getfield 54, 3) := by decide +kernel
theorem dX11_back_81 : decode cX11_back 81 = .ok (.iload 9, 2) := by decide +kernel
theorem dX11_back_83 : decode cX11_back 83 = .ok (.iaload, 1) := by decide +kernel
theorem dX11_back_84 : decode cX11_back 84 = .ok (.istore 10, 2) := by decide +kernel
theorem dX11_back_86 : decode cX11_back 86 = .ok (.iconst 0, 1) := by decide +kernel
theorem dX11_back_87 : decode cX11_back 87 = .ok (.istore 11, 2) := by decide +kernel
theorem dX11_back_89 : decode cX11_back 89 = .ok (.aload_n 0, 1) := by decide +kernel
theorem dX11_back_90 : decode cX11_back 90 = .ok (.getfield 19, 3) := by decide +kernel
theorem dX11_back_93 : decode cX11_back 93 = .ok (.iload 11, 2) := by decide +kernel
theorem dX11_back_95 : decode cX11_back 95 = .ok (.iaload, 1) := by decide +kernel
theorem dX11_back_96 : decode cX11_back 96 = .ok (.iload 10, 2) := by decide +kernel
theorem dX11_back_98 : decode cX11_back 98 = .ok (.if_icmp .eq 9, 3) := by decide +kernel
theorem dX11_back_101 : decode cX11_back 101 = .ok (.iinc 11 1, 3) := by decide +kernel
theorem dX11_back_104 : decode cX11_back 104 = .ok (.goto (-15), 3) := by decide +kernel
theorem dX11_back_107 : decode cX11_back 107 = .ok (.iload 11, 2) := by decide +kernel
theorem dX11_back_109 : decode cX11_back 109 = .ok (.ifCond .le 41, 3) := by decide +kernel
theorem dX11_back_112 : decode cX11_back 112 = .ok (.iload 10, 2) := by decide +kernel
theorem dX11_back_114 : decode cX11_back 114 = .ok (.i2l, 1) := by decide +kernel
theorem dX11_back_115 : decode cX11_back 115 = .ok (.aload_n 0, 1) := by decide +kernel
theorem dX11_back_116 : decode cX11_back 116 = .ok (.getfield 7, 3) := by decide +kernel
theorem dX11_back_119 : decode cX11_back 119 = .ok (.i2l, 1) := by decide +kernel
theorem dX11_back_120 : decode cX11_back 120 = .ok (.lmul, 1) := by decide +kernel
theorem dX11_back_121 : decode cX11_back 121 = .ok (.lload 7, 2) := by decide +kernel
theorem dX11_back_123 : decode cX11_back 123 = .ok (.ladd, 1) := by decide +kernel
theorem dX11_back_124 : decode cX11_back 124 = .ok (.lneg, 1) := by decide +kernel
theorem dX11_back_125 : decode cX11_back 125 = .ok (.iload 9, 2) := by decide +kernel
theorem dX11_back_127 : decode cX11_back 127 = .ok (.i2l, 1) := by decide +kernel
theorem dX11_back_128 : decode cX11_back 128 = .ok (.lconst 1, 1) := by decide +kernel
theorem dX11_back_129 : decode cX11_back 129 = .ok (.ladd, 1) := by decide +kernel
theorem dX11_back_130 : decode cX11_back 130 = .ok (.invokestatic 175, 3) := by decide +kernel
theorem dX11_back_133 : decode cX11_back 133 = .ok (.lneg, 1) := by decide +kernel
theorem dX11_back_134 : decode cX11_back 134 = .ok (.lstore 12, 2) := by decide +kernel
theorem dX11_back_136 : decode cX11_back 136 = .ok (.lload 12, 2) := by decide +kernel
theorem dX11_back_138 : decode cX11_back 138 = .ok (.lload_n 3, 1) := by decide +kernel
theorem dX11_back_139 : decode cX11_back 139 = .ok (.lcmp, 1) := by decide +kernel
theorem dX11_back_140 : decode cX11_back 140 = .ok (.ifCond .le 8, 3) := by decide +kernel
theorem dX11_back_143 : decode cX11_back 143 = .ok (.lload 12, 2) := by decide +kernel
theorem dX11_back_145 : decode cX11_back 145 = .ok (.goto 4, 3) := by decide +kernel
theorem dX11_back_148 : decode cX11_back 148 = .ok (.lload_n 3, 1) := by decide +kernel
theorem dX11_back_149 : decode cX11_back 149 = .ok (.lstore_n 3, 1) := by decide +kernel
theorem dX11_back_150 : decode cX11_back 150 = .ok (.iload 11, 2) := by decide +kernel
theorem dX11_back_152 : decode cX11_back 152 = .ok (.aload_n 0, 1) := by decide +kernel
theorem dX11_back_153 : decode cX11_back 153 = .ok (.getfield 13, 3) := by decide +kernel
theorem dX11_back_156 : decode cX11_back 156 = .ok (.iconst 1, 1) := by decide +kernel
theorem dX11_back_157 : decode cX11_back 157 = .ok (.isub, 1) := by decide +kernel
theorem dX11_back_158 : decode cX11_back 158 = .ok (.if_icmp .ge 51, 3) := by decide +kernel
theorem dX11_back_161 : decode cX11_back 161 = .ok (.aload_n 0, 1) := by decide +kernel
theorem dX11_back_162 : decode cX11_back 162 = .ok (.getfield 19, 3) := by decide +kernel
theorem dX11_back_165 : decode cX11_back 165 = .ok (.iload 11, 2) := by decide +kernel
theorem dX11_back_167 : decode cX11_back 167 = .ok (.iconst 1, 1) := by decide +kernel
theorem dX11_back_168 : decode cX11_back 168 = .ok (.iadd, 1) := by decide +kernel
theorem dX11_back_169 : decode cX11_back 169 = .ok (.iaload, 1) := by decide +kernel
theorem dX11_back_170 : decode cX11_back 170 = .ok (.i2l, 1) := by decide +kernel
theorem dX11_back_171 : decode cX11_back 171 = .ok (.aload_n 0, 1) := by decide +kernel
theorem dX11_back_172 : decode cX11_back 172 = .ok (.getfield 7, 3) := by decide +kernel
theorem dX11_back_175 : decode cX11_back 175 = .ok (.i2l, 1) := by decide +kernel
theorem dX11_back_176 : decode cX11_back 176 = .ok (.lmul, 1) := by decide +kernel
theorem dX11_back_177 : decode cX11_back 177 = .ok (.lload 7, 2) := by decide +kernel
theorem dX11_back_179 : decode cX11_back 179 = .ok (.ladd, 1) := by decide +kernel
theorem dX11_back_180 : decode cX11_back 180 = .ok (.lconst 1, 1) := by decide +kernel
theorem dX11_back_181 : decode cX11_back 181 = .ok (.lsub, 1) := by decide +kernel
theorem dX11_back_182 : decode cX11_back 182 = .ok (.iload 9, 2) := by decide +kernel
theorem dX11_back_184 : decode cX11_back 184 = .ok (.i2l, 1) := by decide +kernel
theorem dX11_back_185 : decode cX11_back 185 = .ok (.lconst 1, 1) := by decide +kernel
theorem dX11_back_186 : decode cX11_back 186 = .ok (.ladd, 1) := by decide +kernel
theorem dX11_back_187 : decode cX11_back 187 = .ok (.invokestatic 175, 3) := by decide +kernel
theorem dX11_back_190 : decode cX11_back 190 = .ok (.lstore 12, 2) := by decide +kernel
theorem dX11_back_192 : decode cX11_back 192 = .ok (.lload 12, 2) := by decide +kernel
theorem dX11_back_194 : decode cX11_back 194 = .ok (.lload 5, 2) := by decide +kernel
theorem dX11_back_196 : decode cX11_back 196 = .ok (.lcmp, 1) := by decide +kernel
theorem dX11_back_197 : decode cX11_back 197 = .ok (.ifCond .ge 8, 3) := by decide +kernel
theorem dX11_back_200 : decode cX11_back 200 = .ok (.lload 12, 2) := by decide +kernel
theorem dX11_back_202 : decode cX11_back 202 = .ok (.goto 5, 3) := by decide +kernel
theorem dX11_back_205 : decode cX11_back 205 = .ok (.lload 5, 2) := by decide +kernel
theorem dX11_back_207 : decode cX11_back 207 = .ok (.lstore 5, 2) := by decide +kernel
theorem dX11_back_209 : decode cX11_back 209 = .ok (.lload 7, 2) := by decide +kernel
theorem dX11_back_211 : decode cX11_back 211 = .ok (.iload 10, 2) := by decide +kernel
theorem dX11_back_213 : decode cX11_back 213 = .ok (.i2l, 1) := by decide +kernel
theorem dX11_back_214 : decode cX11_back 214 = .ok (.aload_n 0, 1) := by decide +kernel
theorem dX11_back_215 : decode cX11_back 215 = .ok (.getfield 7, 3) := by decide +kernel
theorem dX11_back_218 : decode cX11_back 218 = .ok (.i2l, 1) := by decide +kernel
theorem dX11_back_219 : decode cX11_back 219 = .ok (.lmul, 1) := by decide +kernel
theorem dX11_back_220 : decode cX11_back 220 = .ok (.ladd, 1) := by decide +kernel
theorem dX11_back_221 : decode cX11_back 221 = .ok (.lstore 7, 2) := by decide +kernel
theorem dX11_back_223 : decode cX11_back 223 = .ok (.iinc 9 1, 3) := by decide +kernel
theorem dX11_back_226 : decode cX11_back 226 = .ok (.goto (-155), 3) := by decide +kernel
theorem dX11_back_229 : decode cX11_back 229 = .ok (.lload_n 3, 1) := by decide +kernel
theorem dX11_back_230 : decode cX11_back 230 = .ok (.lload 5, 2) := by decide +kernel
theorem dX11_back_232 : decode cX11_back 232 = .ok (.lcmp, 1) := by decide +kernel
theorem dX11_back_233 : decode cX11_back 233 = .ok (.ifCond .le 6, 3) := by decide +kernel
theorem dX11_back_236 : decode cX11_back 236 = .ok (.ldc 151, 2) := by decide +kernel
theorem dX11_back_238 : decode cX11_back 238 = .ok (.ireturn, 1) := by decide +kernel
theorem dX11_back_239 : decode cX11_back 239 = .ok (.iload_n 2, 1) := by decide +kernel
theorem dX11_back_240 : decode cX11_back 240 = .ok (.ifCond .ne 7, 3) := by decide +kernel
theorem dX11_back_243 : decode cX11_back 243 = .ok (.lload_n 3, 1) := by decide +kernel
theorem dX11_back_244 : decode cX11_back 244 = .ok (.goto 5, 3) := by decide +kernel
theorem dX11_back_247 : decode cX11_back 247 = .ok (.lload 5, 2) := by decide +kernel
theorem dX11_back_249 : decode cX11_back 249 = .ok (.l2i, 1) := by decide +kernel
theorem dX11_back_250 : decode cX11_back 250 = .ok (.ireturn, 1) := by decide +kernel
set_option maxRecDepth 20000 in
theorem ggX11_range_X11_isWish : GoodIn wsX11_range wsX11_isWish := goodIn_r _ [6, 7, 8] (by decide +kernel) (by decide +kernel)
set_option maxRecDepth 20000 in
theorem gX11_range_X11_isWish : GoodIn wsX11_range (va_wsS RX11 145 yX11_isWish wsX11_isWish) := goodIn_app (goodIn_of _ (by decide +kernel)) ggX11_range_X11_isWish
set_option maxRecDepth 20000 in
theorem ggX11_range_X11_stepFor : GoodIn wsX11_range wsX11_stepFor := goodIn_r _ [12, 13, 14, 1, 15, 16, 17, 18, 19, 20, 21, 22, 23, 24, 25, 26, 27, 28, 29, 30, 31, 32, 33, 34, 35, 36, 37, 38, 39, 40, 41, 42, 43, 44, 45, 46, 47, 48, 49] (by decide +kernel) (by decide +kernel)
set_option maxRecDepth 20000 in
theorem gX11_range_X11_stepFor : GoodIn wsX11_range (wsV RX11 129 RX11 yX11_stepFor wsX11_stepFor) := goodIn_app (goodIn_of _ (by decide +kernel)) ggX11_range_X11_stepFor
theorem dX11_range_0 : decode cX11_range 0 = .ok (.iload_n 1, 1) := by decide +kernel
theorem dX11_range_1 : decode cX11_range 1 = .ok (.iconst 1, 1) := by decide +kernel
theorem dX11_range_2 : decode cX11_range 2 = .ok (.if_icmp .lt 37, 3) := by decide +kernel
theorem dX11_range_5 : decode cX11_range 5 = .ok (.iload_n 1, 1) := by decide +kernel
theorem dX11_range_6 : decode cX11_range 6 = .ok (.bipush 64, 2) := by decide +kernel
theorem dX11_range_8 : decode cX11_range 8 = .ok (.if_icmp .gt 31, 3) := by decide +kernel
theorem dX11_range_11 : decode cX11_range 11 = .ok (.iload_n 2, 1) := by decide +kernel
theorem dX11_range_12 : decode cX11_range 12 = .ok (.invokestatic 145, 3) := by decide +kernel
theorem dX11_range_15 : decode cX11_range 15 = .ok (.ifCond .eq 24, 3) := by decide +kernel
theorem dX11_range_18 : decode cX11_range 18 = .ok (.iload_n 3, 1) := by decide +kernel
theorem dX11_range_19 : decode cX11_range 19 = .ok (.invokestatic 145, 3) := by decide +kernel
theorem dX11_range_22 : decode cX11_range 22 = .ok (.ifCond .eq 17, 3) := by decide +kernel
theorem dX11_range_25 : decode cX11_range 25 = .ok (.iload_n 2, 1) := by decide +kernel
theorem dX11_range_26 : decode cX11_range 26 = .ok (.iload_n 3, 1) := by decide +kernel
theorem dX11_range_27 : decode cX11_range 27 = .ok (.if_icmp .gt 12, 3) := by decide +kernel
theorem dX11_range_30 : decode cX11_range 30 = .ok (.iload_n 3, 1) := by decide +kernel
theorem dX11_range_31 : decode cX11_range 31 = .ok (.iload_n 2, 1) := by decide +kernel
theorem dX11_range_32 : decode cX11_range 32 = .ok (.isub, 1) := by decide +kernel
theorem dX11_range_33 : decode cX11_range 33 = .ok (.sipush 2000, 3) := by decide +kernel
theorem dX11_range_36 : decode cX11_range 36 = .ok (.if_icmp .le 5, 3) := by decide +kernel
theorem dX11_range_39 : decode cX11_range 39 = .ok (.iconst (-1), 1) := by decide +kernel
theorem dX11_range_40 : decode cX11_range 40 = .ok (.ireturn, 1) := by decide +kernel
theorem dX11_range_41 : decode cX11_range 41 = .ok (.iconst 0, 1) := by decide +kernel
theorem dX11_range_42 : decode cX11_range 42 = .ok (.istore 4, 2) := by decide +kernel
theorem dX11_range_44 : decode cX11_range 44 = .ok (.iload_n 2, 1) := by decide +kernel
theorem dX11_range_45 : decode cX11_range 45 = .ok (.istore 5, 2) := by decide +kernel
theorem dX11_range_47 : decode cX11_range 47 = .ok (.iload 5, 2) := by decide +kernel
theorem dX11_range_49 : decode cX11_range 49 = .ok (.iload_n 3, 1) := by decide +kernel
theorem dX11_range_50 : decode cX11_range 50 = .ok (.if_icmp .gt 118, 3) := by decide +kernel
theorem dX11_range_53 : decode cX11_range 53 = .ok (.lconst 0, 1) := by decide +kernel
theorem dX11_range_54 : decode cX11_range 54 = .ok (.lstore 6, 2) := by decide +kernel
theorem dX11_range_56 : decode cX11_range 56 = .ok (.iload 5, 2) := by decide +kernel
theorem dX11_range_58 : decode cX11_range 58 = .ok (.iload_n 2, 1) := by decide +kernel
theorem dX11_range_59 : decode cX11_range 59 = .ok (.if_icmp .le 7, 3) := by decide +kernel
theorem dX11_range_62 : decode cX11_range 62 = .ok (.iconst 1, 1) := by decide +kernel
theorem dX11_range_63 : decode cX11_range 63 = .ok (.goto 4, 3) := by decide +kernel
theorem dX11_range_66 : decode cX11_range 66 = .ok (.iconst 0, 1) := by decide +kernel
theorem dX11_range_67 : decode cX11_range 67 = .ok (.istore 8, 2) := by decide +kernel
theorem dX11_range_69 : decode cX11_range 69 = .ok (.iconst 0, 1) := by decide +kernel
theorem dX11_range_70 : decode cX11_range 70 = .ok (.istore 9, 2) := by decide +kernel
theorem dX11_range_72 : decode cX11_range 72 = .ok (.iload 9, 2) := by decide +kernel
theorem dX11_range_74 : decode cX11_range 74 = .ok (.iload_n 1, 1) := by decide +kernel
theorem dX11_range_75 : decode cX11_range 75 = .ok (.if_icmp .ge 72, 3) := by decide +kernel
theorem dX11_range_78 : decode cX11_range 78 = .ok (.aload_n 0, 1) := by decide +kernel
theorem dX11_range_79 : decode cX11_range 79 = .ok (.lload 6, 2) := by decide +kernel
theorem dX11_range_81 : decode cX11_range 81 = .ok (.iload 5, 2) := by decide +kernel
theorem dX11_range_83 : decode cX11_range 83 = .ok (.i2l, 1) := by decide +kernel
theorem dX11_range_84 : decode cX11_range 84 = .ok (.ladd, 1) := by decide +kernel
theorem dX11_range_85 : decode cX11_range 85 = .ok (.invokevirtual 129, 3) := by decide +kernel
theorem dX11_range_88 : decode cX11_range 88 = .ok (.istore 10, 2) := by decide +kernel
theorem dX11_range_90 : decode cX11_range 90 = .ok (.lload 6, 2) := by decide +kernel
theorem dX11_range_92 : decode cX11_range 92 = .ok (.iload 5, 2) := by decide +kernel
theorem dX11_range_94 : decode cX11_range 94 = .ok (.i2l, 1) := by decide +kernel
theorem dX11_range_95 : decode cX11_range 95 = .ok (.iload 10, 2) := by decide +kernel
theorem dX11_range_97 : decode cX11_range 97 = .ok (.i2l, 1) := by decide +kernel
theorem dX11_range_98 : decode cX11_range 98 = .ok (.aload_n 0, 1) := by decide +kernel
theorem dX11_range_99 : decode cX11_range 99 = .ok (.getfield 7, 3) := by decide +kernel
theorem dX11_range_102 : decode cX11_range 102 = .ok (.i2l, 1) := by decide +kernel
theorem dX11_range_103 : decode cX11_range 103 = .ok (.lmul, 1) := by decide +kernel
theorem dX11_range_104 : decode cX11_range 104 = .ok (.lsub, 1) := by decide +kernel
theorem dX11_range_105 : decode cX11_range 105 = .ok (.ladd, 1) := by decide +kernel
theorem dX11_range_106 : decode cX11_range 106 = .ok (.lstore 6, 2) := by decide +kernel
theorem dX11_range_108 : decode cX11_range 108 = .ok (.iload 8, 2) := by decide +kernel
theorem dX11_range_110 : decode cX11_range 110 = .ok (.ifCond .eq 19, 3) := by decide +kernel
theorem dX11_range_113 : decode cX11_range 113 = .ok (.aload_n 0, 1) := by decide +kernel
theorem dX11_range_114 : decode cX11_range 114 = .ok (.getfield 78, 3) := by decide +kernel
theorem dX11_range_117 : decode cX11_range 117 = .ok (.iload 9, 2) := by decide +kernel
theorem dX11_range_119 : decode cX11_range 119 = .ok (.iaload, 1) := by decide +kernel
theorem dX11_range_120 : decode cX11_range 120 = .ok (.iload 10, 2) := by decide +kernel
theorem dX11_range_122 : decode cX11_range 122 = .ok (.if_icmp .ne 7, 3) := by decide +kernel
theorem dX11_range_125 : decode cX11_range 125 = .ok (.iconst 1, 1) := by decide +kernel
theorem dX11_range_126 : decode cX11_range 126 = .ok (.goto 4, 3) := by decide +kernel
theorem dX11_range_129 : decode cX11_range 129 = .ok (.iconst 0, 1) := by decide +kernel
theorem dX11_range_130 : decode cX11_range 130 = .ok (.istore 8, 2) := by decide +kernel
theorem dX11_range_132 : decode cX11_range 132 = .ok (.aload_n 0, 1) := by decide +kernel
theorem dX11_range_133 : decode cX11_range 133 = .ok (.getfield 78, 3) := by decide +kernel
theorem dX11_range_136 : decode cX11_range 136 = .ok (.iload 9, 2) := by decide +kernel
theorem dX11_range_138 : decode cX11_range 138 = .ok (.iload 10, 2) := by decide +kernel
theorem dX11_range_140 : decode cX11_range 140 = .ok (.iastore, 1) := by decide +kernel
theorem dX11_range_141 : decode cX11_range 141 = .ok (.iinc 9 1, 3) := by decide +kernel
theorem dX11_range_144 : decode cX11_range 144 = .ok (.goto (-72), 3) := by decide +kernel
theorem dX11_range_147 : decode cX11_range 147 = .ok (.iload 4, 2) := by decide +kernel
theorem dX11_range_149 : decode cX11_range 149 = .ok (.iload 8, 2) := by decide +kernel
theorem dX11_range_151 : decode cX11_range 151 = .ok (.ifCond .eq 7, 3) := by decide +kernel
theorem dX11_range_154 : decode cX11_range 154 = .ok (.iconst 0, 1) := by decide +kernel
theorem dX11_range_155 : decode cX11_range 155 = .ok (.goto 4, 3) := by decide +kernel
theorem dX11_range_158 : decode cX11_range 158 = .ok (.iconst 1, 1) := by decide +kernel
theorem dX11_range_159 : decode cX11_range 159 = .ok (.iadd, 1) := by decide +kernel
theorem dX11_range_160 : decode cX11_range 160 = .ok (.istore 4, 2) := by decide +kernel
theorem dX11_range_162 : decode cX11_range 162 = .ok (.iinc 5 1, 3) := by decide +kernel
theorem dX11_range_165 : decode cX11_range 165 = .ok (.goto (-118), 3) := by decide +kernel
theorem dX11_range_168 : decode cX11_range 168 = .ok (.iload 4, 2) := by decide +kernel
theorem dX11_range_170 : decode cX11_range 170 = .ok (.ireturn, 1) := by decide +kernel
theorem dX11_part_0 : decode cX11_part 0 = .ok (.iload_n 1, 1) := by decide +kernel
theorem dX11_part_1 : decode cX11_part 1 = .ok (.ifCond .lt 20, 3) := by decide +kernel
theorem dX11_part_4 : decode cX11_part 4 = .ok (.iload_n 1, 1) := by decide +kernel
theorem dX11_part_5 : decode cX11_part 5 = .ok (.aload_n 0, 1) := by decide +kernel
theorem dX11_part_6 : decode cX11_part 6 = .ok (.getfield 109, 3) := by decide +kernel
theorem dX11_part_9 : decode cX11_part 9 = .ok (.if_icmp .ge 12, 3) := by decide +kernel
theorem dX11_part_12 : decode cX11_part 12 = .ok (.iload_n 2, 1) := by decide +kernel
theorem dX11_part_13 : decode cX11_part 13 = .ok (.ifCond .lt 8, 3) := by decide +kernel
theorem dX11_part_16 : decode cX11_part 16 = .ok (.iload_n 2, 1) := by decide +kernel
theorem dX11_part_17 : decode cX11_part 17 = .ok (.iconst 1, 1) := by decide +kernel
theorem dX11_part_18 : decode cX11_part 18 = .ok (.if_icmp .le 7, 3) := by decide +kernel
theorem dX11_part_21 : decode cX11_part 21 = .ok (.iconst (-1), 1) := by decide +kernel
theorem dX11_part_22 : decode cX11_part 22 = .ok (.goto 22, 3) := by decide +kernel
theorem dX11_part_25 : decode cX11_part 25 = .ok (.iload_n 2, 1) := by decide +kernel
theorem dX11_part_26 : decode cX11_part 26 = .ok (.ifCond .ne 12, 3) := by decide +kernel
theorem dX11_part_29 : decode cX11_part 29 = .ok (.aload_n 0, 1) := by decide +kernel
theorem dX11_part_30 : decode cX11_part 30 = .ok (.getfield 48, 3) := by decide +kernel
theorem dX11_part_33 : decode cX11_part 33 = .ok (.iload_n 1, 1) := by decide +kernel
theorem dX11_part_34 : decode cX11_part 34 = .ok (.iaload, 1) := by decide +kernel
theorem dX11_part_35 : decode cX11_part 35 = .ok (.goto 9, 3) := by decide +kernel
theorem dX11_part_38 : decode cX11_part 38 = .ok (.aload_n 0, 1) := by decide +kernel
theorem dX11_part_39 : decode cX11_part 39 = .ok (.getfield 51, 3) := by decide +kernel
theorem dX11_part_42 : decode cX11_part 42 = .ok (.iload_n 1, 1) := by decide +kernel
theorem dX11_part_43 : decode cX11_part 43 = .ok (.iaload, 1) := by decide +kernel
theorem dX11_part_44 : decode cX11_part 44 = .ok (.ireturn, 1) := by decide +kernel
theorem dX11_spread_0 : decode cX11_spread 0 = .ok (.aload_n 0, 1) := by decide +kernel
theorem dX11_spread_1 : decode cX11_spread 1 = .ok (.getfield 103, 3) := by decide +kernel
theorem dX11_spread_4 : decode cX11_spread 4 = .ok (.iconst 4, 1) := by decide +kernel
theorem dX11_spread_5 : decode cX11_spread 5 = .ok (.if_icmp .eq 5, 3) := by decide +kernel
theorem dX11_spread_8 : decode cX11_spread 8 = .ok (.iconst (-1), 1) := by decide +kernel
theorem dX11_spread_9 : decode cX11_spread 9 = .ok (.ireturn, 1) := by decide +kernel
theorem dX11_spread_10 : decode cX11_spread 10 = .ok (.aload_n 0, 1) := by decide +kernel
theorem dX11_spread_11 : decode cX11_spread 11 = .ok (.getfield 51, 3) := by decide +kernel
theorem dX11_spread_14 : decode cX11_spread 14 = .ok (.iconst 0, 1) := by decide +kernel
theorem dX11_spread_15 : decode cX11_spread 15 = .ok (.iaload, 1) := by decide +kernel
theorem dX11_spread_16 : decode cX11_spread 16 = .ok (.istore_n 1, 1) := by decide +kernel
theorem dX11_spread_17 : decode cX11_spread 17 = .ok (.aload_n 0, 1) := by decide +kernel
theorem dX11_spread_18 : decode cX11_spread 18 = .ok (.getfield 51, 3) := by decide +kernel
theorem dX11_spread_21 : decode cX11_spread 21 = .ok (.iconst 0, 1) := by decide +kernel
theorem dX11_spread_22 : decode cX11_spread 22 = .ok (.iaload, 1) := by decide +kernel
theorem dX11_spread_23 : decode cX11_spread 23 = .ok (.istore_n 2, 1) := by decide +kernel
theorem dX11_spread_24 : decode cX11_spread 24 = .ok (.iconst 1, 1) := by decide +kernel
theorem dX11_spread_25 : decode cX11_spread 25 = .ok (.istore_n 3, 1) := by decide +kernel
theorem dX11_spread_26 : decode cX11_spread 26 = .ok (.iload_n 3, 1) := by decide +kernel
theorem dX11_spread_27 : decode cX11_spread 27 = .ok (.aload_n 0, 1) := by decide +kernel
theorem dX11_spread_28 : decode cX11_spread 28 = .ok (.getfield 109, 3) := by decide +kernel
theorem dX11_spread_31 : decode cX11_spread 31 = .ok (.if_icmp .ge 51, 3) := by decide +kernel
theorem dX11_spread_34 : decode cX11_spread 34 = .ok (.aload_n 0, 1) := by decide +kernel
theorem dX11_spread_35 : decode cX11_spread 35 = .ok (.getfield 51, 3) := by decide +kernel
theorem dX11_spread_38 : decode cX11_spread 38 = .ok (.iload_n 3, 1) := by decide +kernel
theorem dX11_spread_39 : decode cX11_spread 39 = .ok (.iaload, 1) := by decide +kernel
theorem dX11_spread_40 : decode cX11_spread 40 = .ok (.iload_n 1, 1) := by decide +kernel
theorem dX11_spread_41 : decode cX11_spread 41 = .ok (.if_icmp .ge 12, 3) := by decide +kernel
theorem dX11_spread_44 : decode cX11_spread 44 = .ok (.aload_n 0, 1) := by decide +kernel
theorem dX11_spread_45 : decode cX11_spread 45 = .ok (.getfield 51, 3) := by decide +kernel
theorem dX11_spread_48 : decode cX11_spread 48 = .ok (.iload_n 3, 1) := by decide +kernel
theorem dX11_spread_49 : decode cX11_spread 49 = .ok (.iaload, 1) := by decide +kernel
theorem dX11_spread_50 : decode cX11_spread 50 = .ok (.goto 4, 3) := by decide +kernel
theorem dX11_spread_53 : decode cX11_spread 53 = .ok (.iload_n 1, 1) := by decide +kernel
theorem dX11_spread_54 : decode cX11_spread 54 = .ok (.istore_n 1, 1) := by decide +kernel
theorem dX11_spread_55 : decode cX11_spread 55 = .ok (.aload_n 0, 1) := by decide +kernel
theorem dX11_spread_56 : decode cX11_spread 56 = .ok (.getfield 51, 3) := by decide +kernel
theorem dX11_spread_59 : decode cX11_spread 59 = .ok (.iload_n 3, 1) := by decide +kernel
theorem dX11_spread_60 : decode cX11_spread 60 = .ok (.iaload, 1) := by decide +kernel
theorem dX11_spread_61 : decode cX11_spread 61 = .ok (.iload_n 2, 1) := by decide +kernel
theorem dX11_spread_62 : decode cX11_spread 62 = .ok (.if_icmp .le 12, 3) := by decide +kernel
theorem dX11_spread_65 : decode cX11_spread 65 = .ok (.aload_n 0, 1) := by decide +kernel
theorem dX11_spread_66 : decode cX11_spread 66 = .ok (.getfield 51, 3) := by decide +kernel
theorem dX11_spread_69 : decode cX11_spread 69 = .ok (.iload_n 3, 1) := by decide +kernel
theorem dX11_spread_70 : decode cX11_spread 70 = .ok (.iaload, 1) := by decide +kernel
theorem dX11_spread_71 : decode cX11_spread 71 = .ok (.goto 4, 3) := by decide +kernel
theorem dX11_spread_74 : decode cX11_spread 74 = .ok (.iload_n 2, 1) := by decide +kernel
theorem dX11_spread_75 : decode cX11_spread 75 = .ok (.istore_n 2, 1) := by decide +kernel
theorem dX11_spread_76 : decode cX11_spread 76 = .ok (.iinc 3 1, 3) := by decide +kernel
theorem dX11_spread_79 : decode cX11_spread 79 = .ok (.goto (-53), 3) := by decide +kernel
theorem dX11_spread_82 : decode cX11_spread 82 = .ok (.iload_n 2, 1) := by decide +kernel
theorem dX11_spread_83 : decode cX11_spread 83 = .ok (.iload_n 1, 1) := by decide +kernel
theorem dX11_spread_84 : decode cX11_spread 84 = .ok (.isub, 1) := by decide +kernel
theorem dX11_spread_85 : decode cX11_spread 85 = .ok (.ireturn, 1) := by decide +kernel
set_option maxRecDepth 20000 in
theorem ggX11_about_X11_kept : GoodIn wsX11_about wsX11_kept := goodIn_r _ [13, 6, 14, 15, 16, 17, 18, 19, 20, 21, 22, 23, 24, 25, 26, 27, 28, 29, 30, 31, 32, 33, 34, 35, 36, 37, 38, 39, 40, 41, 42, 43, 44, 45, 46, 47, 48] (by decide +kernel) (by decide +kernel)
set_option maxRecDepth 20000 in
theorem gX11_about_X11_kept : GoodIn wsX11_about (wsV RX11 152 RX11 yX11_kept wsX11_kept) := goodIn_app (goodIn_of _ (by decide +kernel)) ggX11_about_X11_kept
theorem dX11_about_0 : decode cX11_about 0 = .ok (.iload_n 1, 1) := by decide +kernel
theorem dX11_about_1 : decode cX11_about 1 = .ok (.tableswitch 96 0 8 #[51, 56, 61, 66, 71, 76, 81, 86, 91], 51) := by decide +kernel
theorem dX11_about_52 : decode cX11_about 52 = .ok (.aload_n 0, 1) := by decide +kernel
theorem dX11_about_53 : decode cX11_about 53 = .ok (.getfield 7, 3) := by decide +kernel
theorem dX11_about_56 : decode cX11_about 56 = .ok (.ireturn, 1) := by decide +kernel
theorem dX11_about_57 : decode cX11_about 57 = .ok (.aload_n 0, 1) := by decide +kernel
theorem dX11_about_58 : decode cX11_about 58 = .ok (.getfield 13, 3) := by decide +kernel
theorem dX11_about_61 : decode cX11_about 61 = .ok (.ireturn, 1) := by decide +kernel
theorem dX11_about_62 : decode cX11_about 62 = .ok (.aload_n 0, 1) := by decide +kernel
theorem dX11_about_63 : decode cX11_about 63 = .ok (.getfield 103, 3) := by decide +kernel
theorem dX11_about_66 : decode cX11_about 66 = .ok (.ireturn, 1) := by decide +kernel
theorem dX11_about_67 : decode cX11_about 67 = .ok (.aload_n 0, 1) := by decide +kernel
theorem dX11_about_68 : decode cX11_about 68 = .ok (.getfield 16, 3) := by decide +kernel
theorem dX11_about_71 : decode cX11_about 71 = .ok (.ireturn, 1) := by decide +kernel
theorem dX11_about_72 : decode cX11_about 72 = .ok (.aload_n 0, 1) := by decide +kernel
theorem dX11_about_73 : decode cX11_about 73 = .ok (.getfield 109, 3) := by decide +kernel
theorem dX11_about_76 : decode cX11_about 76 = .ok (.ireturn, 1) := by decide +kernel
theorem dX11_about_77 : decode cX11_about 77 = .ok (.aload_n 0, 1) := by decide +kernel
theorem dX11_about_78 : decode cX11_about 78 = .ok (.getfield 81, 3) := by decide +kernel
theorem dX11_about_81 : decode cX11_about 81 = .ok (.ireturn, 1) := by decide +kernel
theorem dX11_about_82 : decode cX11_about 82 = .ok (.aload_n 0, 1) := by decide +kernel
theorem dX11_about_83 : decode cX11_about 83 = .ok (.invokevirtual 152, 3) := by decide +kernel
theorem dX11_about_86 : decode cX11_about 86 = .ok (.ireturn, 1) := by decide +kernel
theorem dX11_about_87 : decode cX11_about 87 = .ok (.aload_n 0, 1) := by decide +kernel
theorem dX11_about_88 : decode cX11_about 88 = .ok (.getfield 168, 3) := by decide +kernel
theorem dX11_about_91 : decode cX11_about 91 = .ok (.ireturn, 1) := by decide +kernel
theorem dX11_about_92 : decode cX11_about 92 = .ok (.aload_n 0, 1) := by decide +kernel
theorem dX11_about_93 : decode cX11_about 93 = .ok (.getfield 84, 3) := by decide +kernel
theorem dX11_about_96 : decode cX11_about 96 = .ok (.ireturn, 1) := by decide +kernel
theorem dX11_about_97 : decode cX11_about 97 = .ok (.iconst (-1), 1) := by decide +kernel
theorem dX11_about_98 : decode cX11_about 98 = .ok (.ireturn, 1) := by decide +kernel
theorem dX11_step_0 : decode cX11_step 0 = .ok (.iload_n 1, 1) := by decide +kernel
theorem dX11_step_1 : decode cX11_step 1 = .ok (.ifCond .lt 11, 3) := by decide +kernel
theorem dX11_step_4 : decode cX11_step 4 = .ok (.iload_n 1, 1) := by decide +kernel
theorem dX11_step_5 : decode cX11_step 5 = .ok (.aload_n 0, 1) := by decide +kernel
theorem dX11_step_6 : decode cX11_step 6 = .ok (.getfield 13, 3) := by decide +kernel
theorem dX11_step_9 : decode cX11_step 9 = .ok (.if_icmp .lt 8, 3) := by decide +kernel
theorem dX11_step_12 : decode cX11_step 12 = .ok (.ldc 151, 2) := by decide +kernel
theorem dX11_step_14 : decode cX11_step 14 = .ok (.goto 9, 3) := by decide +kernel
theorem dX11_step_17 : decode cX11_step 17 = .ok (.aload_n 0, 1) := by decide +kernel
theorem dX11_step_18 : decode cX11_step 18 = .ok (.getfield 19, 3) := by decide +kernel
theorem dX11_step_21 : decode cX11_step 21 = .ok (.iload_n 1, 1) := by decide +kernel
theorem dX11_step_22 : decode cX11_step 22 = .ok (.iaload, 1) := by decide +kernel
theorem dX11_step_23 : decode cX11_step 23 = .ok (.ireturn, 1) := by decide +kernel
theorem dJ9_floorDiv_f86c9_0 : decode cJ9_floorDiv_f86c9 0 = .ok (.lload_n 0, 1) := by decide +kernel
theorem dJ9_floorDiv_f86c9_1 : decode cJ9_floorDiv_f86c9 1 = .ok (.lload_n 2, 1) := by decide +kernel
theorem dJ9_floorDiv_f86c9_2 : decode cJ9_floorDiv_f86c9 2 = .ok (.ldiv, 1) := by decide +kernel
theorem dJ9_floorDiv_f86c9_3 : decode cJ9_floorDiv_f86c9 3 = .ok (.lstore 4, 2) := by decide +kernel
theorem dJ9_floorDiv_f86c9_5 : decode cJ9_floorDiv_f86c9 5 = .ok (.lload_n 0, 1) := by decide +kernel
theorem dJ9_floorDiv_f86c9_6 : decode cJ9_floorDiv_f86c9 6 = .ok (.lload_n 2, 1) := by decide +kernel
theorem dJ9_floorDiv_f86c9_7 : decode cJ9_floorDiv_f86c9 7 = .ok (.lxor, 1) := by decide +kernel
theorem dJ9_floorDiv_f86c9_8 : decode cJ9_floorDiv_f86c9 8 = .ok (.lconst 0, 1) := by decide +kernel
theorem dJ9_floorDiv_f86c9_9 : decode cJ9_floorDiv_f86c9 9 = .ok (.lcmp, 1) := by decide +kernel
theorem dJ9_floorDiv_f86c9_10 : decode cJ9_floorDiv_f86c9 10 = .ok (.ifCond .ge 17, 3) := by decide +kernel
theorem dJ9_floorDiv_f86c9_13 : decode cJ9_floorDiv_f86c9 13 = .ok (.lload 4, 2) := by decide +kernel
theorem dJ9_floorDiv_f86c9_15 : decode cJ9_floorDiv_f86c9 15 = .ok (.lload_n 2, 1) := by decide +kernel
theorem dJ9_floorDiv_f86c9_16 : decode cJ9_floorDiv_f86c9 16 = .ok (.lmul, 1) := by decide +kernel
theorem dJ9_floorDiv_f86c9_17 : decode cJ9_floorDiv_f86c9 17 = .ok (.lload_n 0, 1) := by decide +kernel
theorem dJ9_floorDiv_f86c9_18 : decode cJ9_floorDiv_f86c9 18 = .ok (.lcmp, 1) := by decide +kernel
theorem dJ9_floorDiv_f86c9_19 : decode cJ9_floorDiv_f86c9 19 = .ok (.ifCond .eq 8, 3) := by decide +kernel
theorem dJ9_floorDiv_f86c9_22 : decode cJ9_floorDiv_f86c9 22 = .ok (.lload 4, 2) := by decide +kernel
theorem dJ9_floorDiv_f86c9_24 : decode cJ9_floorDiv_f86c9 24 = .ok (.lconst 1, 1) := by decide +kernel
theorem dJ9_floorDiv_f86c9_25 : decode cJ9_floorDiv_f86c9 25 = .ok (.lsub, 1) := by decide +kernel
theorem dJ9_floorDiv_f86c9_26 : decode cJ9_floorDiv_f86c9 26 = .ok (.lreturn, 1) := by decide +kernel
theorem dJ9_floorDiv_f86c9_27 : decode cJ9_floorDiv_f86c9 27 = .ok (.lload 4, 2) := by decide +kernel
theorem dJ9_floorDiv_f86c9_29 : decode cJ9_floorDiv_f86c9 29 = .ok (.lreturn, 1) := by decide +kernel
theorem dJ9_max_7cf53_0 : decode cJ9_max_7cf53 0 = .ok (.iload_n 0, 1) := by decide +kernel
theorem dJ9_max_7cf53_1 : decode cJ9_max_7cf53 1 = .ok (.iload_n 1, 1) := by decide +kernel
theorem dJ9_max_7cf53_2 : decode cJ9_max_7cf53 2 = .ok (.if_icmp .lt 7, 3) := by decide +kernel
theorem dJ9_max_7cf53_5 : decode cJ9_max_7cf53 5 = .ok (.iload_n 0, 1) := by decide +kernel
theorem dJ9_max_7cf53_6 : decode cJ9_max_7cf53 6 = .ok (.goto 4, 3) := by decide +kernel
theorem dJ9_max_7cf53_9 : decode cJ9_max_7cf53 9 = .ok (.iload_n 1, 1) := by decide +kernel
theorem dJ9_max_7cf53_10 : decode cJ9_max_7cf53 10 = .ok (.ireturn, 1) := by decide +kernel
theorem dJ9_max_f86c9_0 : decode cJ9_max_f86c9 0 = .ok (.lload_n 0, 1) := by decide +kernel
theorem dJ9_max_f86c9_1 : decode cJ9_max_f86c9 1 = .ok (.lload_n 2, 1) := by decide +kernel
theorem dJ9_max_f86c9_2 : decode cJ9_max_f86c9 2 = .ok (.lcmp, 1) := by decide +kernel
theorem dJ9_max_f86c9_3 : decode cJ9_max_f86c9 3 = .ok (.ifCond .lt 7, 3) := by decide +kernel
theorem dJ9_max_f86c9_6 : decode cJ9_max_f86c9 6 = .ok (.lload_n 0, 1) := by decide +kernel
theorem dJ9_max_f86c9_7 : decode cJ9_max_f86c9 7 = .ok (.goto 4, 3) := by decide +kernel
theorem dJ9_max_f86c9_10 : decode cJ9_max_f86c9 10 = .ok (.lload_n 2, 1) := by decide +kernel
theorem dJ9_max_f86c9_11 : decode cJ9_max_f86c9 11 = .ok (.lreturn, 1) := by decide +kernel
theorem dJ9_min_7cf53_0 : decode cJ9_min_7cf53 0 = .ok (.iload_n 0, 1) := by decide +kernel
theorem dJ9_min_7cf53_1 : decode cJ9_min_7cf53 1 = .ok (.iload_n 1, 1) := by decide +kernel
theorem dJ9_min_7cf53_2 : decode cJ9_min_7cf53 2 = .ok (.if_icmp .gt 7, 3) := by decide +kernel
theorem dJ9_min_7cf53_5 : decode cJ9_min_7cf53 5 = .ok (.iload_n 0, 1) := by decide +kernel
theorem dJ9_min_7cf53_6 : decode cJ9_min_7cf53 6 = .ok (.goto 4, 3) := by decide +kernel
theorem dJ9_min_7cf53_9 : decode cJ9_min_7cf53 9 = .ok (.iload_n 1, 1) := by decide +kernel
theorem dJ9_min_7cf53_10 : decode cJ9_min_7cf53 10 = .ok (.ireturn, 1) := by decide +kernel
theorem dJ9_min_f86c9_0 : decode cJ9_min_f86c9 0 = .ok (.lload_n 0, 1) := by decide +kernel
theorem dJ9_min_f86c9_1 : decode cJ9_min_f86c9 1 = .ok (.lload_n 2, 1) := by decide +kernel
theorem dJ9_min_f86c9_2 : decode cJ9_min_f86c9 2 = .ok (.lcmp, 1) := by decide +kernel
theorem dJ9_min_f86c9_3 : decode cJ9_min_f86c9 3 = .ok (.ifCond .gt 7, 3) := by decide +kernel
theorem dJ9_min_f86c9_6 : decode cJ9_min_f86c9 6 = .ok (.lload_n 0, 1) := by decide +kernel
theorem dJ9_min_f86c9_7 : decode cJ9_min_f86c9 7 = .ok (.goto 4, 3) := by decide +kernel
theorem dJ9_min_f86c9_10 : decode cJ9_min_f86c9 10 = .ok (.lload_n 2, 1) := by decide +kernel
theorem dJ9_min_f86c9_11 : decode cJ9_min_f86c9 11 = .ok (.lreturn, 1) := by decide +kernel
set_option maxRecDepth 20000 in
theorem ggL_law_X10_init : GoodIn wsL_law wsX10_init := goodIn_r _ [9, 10, 11, 12, 13, 14, 15, 16, 17, 18, 19, 20, 21, 22, 23, 24, 25, 26, 27, 28, 29, 30, 31, 32, 33, 34, 35, 36, 37, 38, 39, 40, 41, 42, 43, 44, 45, 46, 47, 48, 49, 50, 51, 52, 53, 54, 55, 56, 57, 58, 59, 60, 61, 62, 63, 64, 65, 66, 67, 68, 69, 70, 71, 72, 73, 74, 75, 76, 77, 78, 79, 80, 81, 82, 83, 84, 85, 86, 87, 88, 89, 90, 91, 92, 93, 94, 95, 96, 97, 98, 99, 100, 101, 102, 103, 104, 105, 106, 107, 108, 109, 110, 111, 112, 113, 114, 115, 116, 117, 118, 119, 779, 780, 781, 738, 739, 740, 741, 742, 743, 782, 783, 784, 785, 786, 787, 788, 789, 790, 791, 792, 793, 794, 795, 796, 797, 798, 799, 800, 801, 802, 803, 804, 805, 806, 807, 808, 809, 810, 811, 812, 813, 814, 815, 816, 817, 818, 819, 820, 821, 822, 823, 824, 825, 826] (by decide +kernel) (by decide +kernel)
set_option maxRecDepth 20000 in
theorem gL_law_X10_init : GoodIn wsL_law (wsX10_init) := ggL_law_X10_init
set_option maxRecDepth 20000 in
theorem ggL_law_X11_init : GoodIn wsL_law wsX11_init := goodIn_r _ [122, 123, 11, 12, 124, 125, 126, 43, 127, 128, 129, 130, 131, 132, 57, 133, 134, 135, 136, 137, 138, 139, 140, 141, 142, 143, 144, 145, 146, 744, 745, 746, 747, 748, 749, 750, 751, 752, 753, 754, 755, 756, 757, 758, 759, 760, 761, 762, 763, 764, 765, 766, 767, 768, 769, 770, 771, 772, 773, 774, 775, 776, 777, 778] (by decide +kernel) (by decide +kernel)
set_option maxRecDepth 20000 in
theorem gL_law_X11_init : GoodIn wsL_law (wsX11_init) := ggL_law_X11_init
set_option maxRecDepth 20000 in
theorem ggL_law_X10_over : GoodIn wsL_law wsX10_over := goodIn_r _ [150, 16, 20, 151, 152, 153, 19, 154, 58, 155, 156, 157, 158, 159, 52, 56, 160, 161, 162, 51, 163, 164, 67, 68, 165, 166, 167, 55, 168, 169, 170, 738, 739, 740, 741, 742, 743, 779, 780, 781, 782, 783, 784, 785, 786, 787, 788, 789, 790, 804, 805, 806, 807, 808, 809, 810, 811, 812, 813, 814] (by decide +kernel) (by decide +kernel)
set_option maxRecDepth 20000 in
theorem gL_law_X10_over : GoodIn wsL_law (wsV RL 13 RX10 yX10_over wsX10_over) := goodIn_app (goodIn_of _ (by decide +kernel)) ggL_law_X10_over
set_option maxRecDepth 20000 in
theorem ggL_law_X11_over : GoodIn wsL_law wsX11_over := goodIn_r _ [174, 124, 175, 176, 177, 5, 178, 133, 136, 137, 179, 180, 181, 182, 183, 184, 744, 745, 746, 747, 748, 749, 750, 751, 752, 753, 754, 755, 756, 757, 758, 759, 760, 761, 762, 763, 764, 765, 766, 767, 768, 769, 770, 771, 772, 773, 774, 775, 776, 777, 778] (by decide +kernel) (by decide +kernel)
set_option maxRecDepth 20000 in
theorem gL_law_X11_over : GoodIn wsL_law (wsV RL 17 RX11 yX11_over wsX11_over) := goodIn_app (goodIn_of _ (by decide +kernel)) ggL_law_X11_over
set_option maxRecDepth 20000 in
theorem ggL_law_X10_steps : GoodIn wsL_law wsX10_steps := goodIn_r _ [188, 43, 16, 20, 189, 190, 191, 15, 192, 193, 2, 194, 195, 196, 197, 198, 42, 44, 151, 152, 153, 19, 154, 58, 155, 156, 157, 158, 159, 52, 56, 160, 161, 162, 51, 163, 164, 67, 68, 165, 166, 167, 55, 168, 169, 170, 738, 739, 740, 741, 742, 743, 779, 780, 781, 782, 783, 784, 785, 786, 787, 788, 789, 790, 804, 805, 806, 807, 808, 809, 810, 811, 812, 813, 814] (by decide +kernel) (by decide +kernel)
set_option maxRecDepth 20000 in
theorem gL_law_X10_steps : GoodIn wsL_law (wsV RL 18 RX10 yX10_steps wsX10_steps) := goodIn_app (goodIn_of _ (by decide +kernel)) ggL_law_X10_steps
set_option maxRecDepth 20000 in
theorem ggL_law_X11_steps : GoodIn wsL_law wsX11_steps := goodIn_r _ [202, 128, 127, 125, 175, 176, 177, 5, 178, 133, 136, 137, 179, 180, 181, 182, 183, 184, 744, 745, 746, 747, 748, 749, 750, 751, 752, 753, 754, 755, 756, 757, 758, 759, 760, 761, 762, 763, 764, 765, 766, 767, 768, 769, 770, 771, 772, 773, 774, 775, 776, 777, 778] (by decide +kernel) (by decide +kernel)
set_option maxRecDepth 20000 in
theorem gL_law_X11_steps : GoodIn wsL_law (wsV RL 22 RX11 yX11_steps wsX11_steps) := goodIn_app (goodIn_of _ (by decide +kernel)) ggL_law_X11_steps
set_option maxRecDepth 20000 in
theorem ggL_law_X10_loop : GoodIn wsL_law wsX10_loop := goodIn_r _ [206, 20, 28, 207, 208, 2, 209, 210, 211, 212, 19, 213, 62, 52, 214, 215, 216, 61, 217, 86, 87, 83, 218, 219, 220, 82, 221, 92, 222, 93, 94, 95, 96, 223, 224, 225, 51, 226, 227, 228, 229, 161, 162, 163, 164, 67, 68, 230, 152, 153, 154, 58, 155, 156, 157, 158, 159, 56, 160, 165, 166, 167, 55, 168, 169, 170, 231, 232, 233, 27, 234, 107, 108, 738, 739, 740, 741, 742, 743, 782, 783, 784, 785, 786, 787, 788, 789, 790, 815, 816, 817, 818, 819, 820, 821, 822, 823, 824, 825, 826, 804, 805, 806, 807, 808, 809, 810, 811, 812, 813, 814, 795, 796, 797, 798] (by decide +kernel) (by decide +kernel)
set_option maxRecDepth 20000 in
theorem gL_law_X10_loop : GoodIn wsL_law (wsV RL 23 RX10 yX10_loop wsX10_loop) := goodIn_app (goodIn_of _ (by decide +kernel)) ggL_law_X10_loop
set_option maxRecDepth 20000 in
theorem ggL_law_X11_loop : GoodIn wsL_law wsX11_loop := goodIn_r _ [238, 126, 134, 135, 239, 240, 241, 129, 130, 131, 132, 242, 175, 176, 177, 5, 178, 133, 136, 137, 179, 180, 181, 182, 183, 184, 744, 745, 746, 747, 748, 749, 750, 751, 752, 753, 754, 755, 756, 757, 758, 759, 760, 761, 762, 763, 764, 765, 766, 767, 768, 769, 770, 771, 772, 773, 774, 775, 776, 777, 778] (by decide +kernel) (by decide +kernel)
set_option maxRecDepth 20000 in
theorem gL_law_X11_loop : GoodIn wsL_law (wsV RL 27 RX11 yX11_loop wsX11_loop) := goodIn_app (goodIn_of _ (by decide +kernel)) ggL_law_X11_loop
set_option maxRecDepth 20000 in
theorem ggL_law_X10_table : GoodIn wsL_law wsX10_table := goodIn_r _ [246, 20, 247, 193, 2, 194, 248, 249, 250, 82, 251, 92, 93, 94, 95, 96, 222, 151, 152, 153, 19, 154, 58, 155, 156, 157, 158, 159, 52, 56, 160, 161, 162, 51, 163, 164, 67, 68, 165, 166, 167, 55, 168, 169, 170, 738, 739, 740, 741, 742, 743, 782, 783, 784, 785, 786, 787, 788, 789, 790, 815, 816, 817, 818, 819, 820, 821, 822, 823, 824, 825, 826, 804, 805, 806, 807, 808, 809, 810, 811, 812, 813, 814] (by decide +kernel) (by decide +kernel)
set_option maxRecDepth 20000 in
theorem gL_law_X10_table : GoodIn wsL_law (wsV RL 28 RX10 yX10_table wsX10_table) := goodIn_app (goodIn_of _ (by decide +kernel)) ggL_law_X10_table
set_option maxRecDepth 20000 in
theorem ggL_law_X11_table : GoodIn wsL_law wsX11_table := goodIn_r _ [255, 239, 126, 129, 130, 131, 132, 242, 175, 176, 177, 5, 178, 133, 136, 137, 179, 180, 181, 182, 183, 184, 744, 745, 746, 747, 748, 749, 750, 751, 752, 753, 754, 755, 756, 757, 758, 759, 760, 761, 762, 763, 764, 765, 766, 767, 768, 769, 770, 771, 772, 773, 774, 775, 776, 777, 778] (by decide +kernel) (by decide +kernel)
set_option maxRecDepth 20000 in
theorem gL_law_X11_table : GoodIn wsL_law (wsV RL 31 RX11 yX11_table wsX11_table) := goodIn_app (goodIn_of _ (by decide +kernel)) ggL_law_X11_table
set_option maxRecDepth 20000 in
theorem ggL_law_X10_start : GoodIn wsL_law wsX10_start := goodIn_r _ [259, 20, 260, 261, 262, 61, 263, 87, 264, 265, 2, 266, 267, 268, 269, 270, 271, 19, 272, 58, 156, 738, 739, 740, 741, 742, 743, 782, 783, 784, 785, 786, 787, 788, 789, 790, 815, 816, 817, 818, 819, 820] (by decide +kernel) (by decide +kernel)
set_option maxRecDepth 20000 in
theorem gL_law_X10_start : GoodIn wsL_law (wsV RL 34 RX10 yX10_start wsX10_start) := goodIn_app (goodIn_of _ (by decide +kernel)) ggL_law_X10_start
set_option maxRecDepth 20000 in
theorem ggL_law_X11_start : GoodIn wsL_law wsX11_start := goodIn_r _ [276, 179, 133, 184, 277, 278, 279, 5, 280, 126, 281, 282, 283, 284, 285, 744, 745, 746, 747, 748, 749, 750, 751, 752, 753, 754, 755, 756, 757, 758, 759, 760, 761, 762, 763, 764, 765, 766, 767, 768, 769, 770, 771, 772, 773, 774, 775, 776, 777, 778] (by decide +kernel) (by decide +kernel)
set_option maxRecDepth 20000 in
theorem gL_law_X11_start : GoodIn wsL_law (wsV RL 38 RX11 yX11_start wsX11_start) := goodIn_app (goodIn_of _ (by decide +kernel)) ggL_law_X11_start
set_option maxRecDepth 20000 in
theorem ggL_law_X10_tick : GoodIn wsL_law wsX10_tick := goodIn_r _ [289, 20, 290, 291, 292, 2, 293, 294, 247, 193, 194, 295, 296, 297, 19, 298, 62, 58, 299, 155, 56, 52, 300, 301, 302, 61, 303, 86, 304, 305, 306, 307, 84, 308, 309, 310, 311, 312, 88, 85, 313, 314, 315, 15, 316, 42, 44, 41, 317, 318, 319, 320, 321, 322, 323, 324, 83, 87, 325, 326, 327, 82, 328, 222, 92, 96, 329, 330, 331, 332, 94, 95, 93, 333, 334, 335, 336, 337, 338, 339, 340, 265, 266, 267, 268, 341, 342, 343, 344, 157, 158, 159, 345, 346, 347, 55, 348, 72, 169, 73, 74, 170, 349, 350, 351, 352, 353, 354, 355, 51, 356, 227, 357, 358, 359, 360, 67, 228, 361, 362, 363, 364, 164, 365, 366, 367, 368, 68, 369, 370, 371, 372, 738, 739, 740, 741, 742, 743, 782, 783, 784, 785, 786, 787, 788, 789, 790, 815, 816, 817, 818, 819, 820, 779, 780, 781, 821, 822, 823, 824, 825, 826, 809, 810, 811, 812, 813, 814, 804, 805, 806, 807, 808] (by decide +kernel) (by decide +kernel)
set_option maxRecDepth 20000 in
theorem gL_law_X10_tick : GoodIn wsL_law (wsV RL 39 RX10 yX10_tick wsX10_tick) := goodIn_app (goodIn_of _ (by decide +kernel)) ggL_law_X10_tick
set_option maxRecDepth 20000 in
theorem ggL_law_X11_tick : GoodIn wsL_law wsX11_tick := goodIn_r _ [376, 138, 179, 377, 378, 379, 5, 380, 381, 382, 383, 384, 385, 386, 144, 239, 126, 181, 182, 183, 133, 143, 139, 140, 387, 388, 389, 390, 142, 391, 392, 393, 394, 395, 124, 242, 132, 130, 131, 129, 396, 397, 398, 399, 127, 125, 281, 282, 283, 284, 285, 400, 401, 402, 403, 241, 136, 240, 180, 137, 744, 745, 746, 747, 748, 749, 750, 751, 752, 753, 754, 755, 756, 757, 758, 759, 760, 761, 762, 763, 764, 765, 766, 767, 768, 769, 770, 771, 772, 773, 774, 775, 776, 777, 778] (by decide +kernel) (by decide +kernel)
set_option maxRecDepth 20000 in
theorem gL_law_X11_tick : GoodIn wsL_law (wsV RL 43 RX11 yX11_tick wsX11_tick) := goodIn_app (goodIn_of _ (by decide +kernel)) ggL_law_X11_tick
set_option maxRecDepth 20000 in
theorem ggL_law_X10_run : GoodIn wsL_law wsX10_run := goodIn_r _ [407, 20, 290, 291, 292, 2, 293, 294, 247, 193, 194, 295, 296, 297, 19, 298, 62, 58, 299, 155, 56, 52, 300, 301, 302, 61, 303, 86, 304, 305, 306, 307, 84, 308, 309, 310, 311, 312, 88, 85, 313, 314, 315, 15, 316, 42, 44, 41, 317, 318, 319, 320, 321, 322, 323, 324, 83, 87, 325, 326, 327, 82, 328, 222, 92, 96, 329, 330, 331, 332, 94, 95, 93, 333, 334, 335, 336, 337, 338, 339, 340, 265, 266, 267, 268, 341, 342, 343, 344, 157, 158, 159, 345, 346, 347, 55, 348, 72, 169, 73, 74, 170, 349, 350, 351, 352, 353, 354, 355, 51, 356, 227, 357, 358, 359, 360, 67, 228, 361, 362, 363, 364, 164, 365, 366, 367, 368, 68, 369, 370, 371, 372, 738, 739, 740, 741, 742, 743, 782, 783, 784, 785, 786, 787, 788, 789, 790, 815, 816, 817, 818, 819, 820, 779, 780, 781, 821, 822, 823, 824, 825, 826, 809, 810, 811, 812, 813, 814, 804, 805, 806, 807, 808] (by decide +kernel) (by decide +kernel)
set_option maxRecDepth 20000 in
theorem gL_law_X10_run : GoodIn wsL_law (wsV RL 44 RX10 yX10_run wsX10_run) := goodIn_app (goodIn_of _ (by decide +kernel)) ggL_law_X10_run
set_option maxRecDepth 20000 in
theorem ggL_law_X11_run : GoodIn wsL_law wsX11_run := goodIn_r _ [411, 378, 379, 5, 380, 381, 382, 383, 384, 385, 386, 144, 239, 126, 181, 182, 183, 133, 143, 138, 179, 139, 140, 387, 388, 389, 390, 142, 391, 392, 393, 394, 395, 124, 242, 132, 130, 131, 129, 396, 397, 398, 399, 127, 125, 281, 282, 283, 284, 285, 400, 401, 402, 403, 241, 136, 240, 180, 137, 744, 745, 746, 747, 748, 749, 750, 751, 752, 753, 754, 755, 756, 757, 758, 759, 760, 761, 762, 763, 764, 765, 766, 767, 768, 769, 770, 771, 772, 773, 774, 775, 776, 777, 778] (by decide +kernel) (by decide +kernel)
set_option maxRecDepth 20000 in
theorem gL_law_X11_run : GoodIn wsL_law (wsV RL 48 RX11 yX11_run wsX11_run) := goodIn_app (goodIn_of _ (by decide +kernel)) ggL_law_X11_run
set_option maxRecDepth 20000 in
theorem ggL_law_X10_sum : GoodIn wsL_law wsX10_sum := goodIn_r _ [415, 20, 260, 261, 262, 61, 263, 87, 738, 739, 740, 741, 742, 743, 782, 783, 784, 785, 786, 787, 788, 789, 790, 815, 816, 817, 818, 819, 820] (by decide +kernel) (by decide +kernel)
set_option maxRecDepth 20000 in
theorem gL_law_X10_sum : GoodIn wsL_law (wsV RL 49 RX10 yX10_sum wsX10_sum) := goodIn_app (goodIn_of _ (by decide +kernel)) ggL_law_X10_sum
set_option maxRecDepth 20000 in
theorem ggL_law_X11_sum : GoodIn wsL_law wsX11_sum := goodIn_r _ [419, 133, 277, 278, 279, 5, 280, 126, 744, 745, 746, 747, 748, 749, 750, 751, 752, 753, 754, 755, 756, 757, 758, 759, 760, 761, 762, 763, 764, 765, 766, 767, 768, 769, 770, 771, 772, 773, 774, 775, 776, 777, 778] (by decide +kernel) (by decide +kernel)
set_option maxRecDepth 20000 in
theorem gL_law_X11_sum : GoodIn wsL_law (wsV RL 53 RX11 yX11_sum wsX11_sum) := goodIn_app (goodIn_of _ (by decide +kernel)) ggL_law_X11_sum
set_option maxRecDepth 20000 in
theorem ggL_law_X10_was : GoodIn wsL_law wsX10_was := goodIn_r _ [423, 20, 290, 424, 425, 426, 55, 427, 170, 428, 429, 430, 431, 73, 169, 432, 433, 434, 435, 72, 738, 739, 740, 741, 742, 743, 782, 783, 784, 785, 786, 787, 788, 789, 790, 809, 810, 811, 812, 813, 814] (by decide +kernel) (by decide +kernel)
set_option maxRecDepth 20000 in
theorem gL_law_X10_was : GoodIn wsL_law (wsV RL 54 RX10 yX10_was wsX10_was) := goodIn_app (goodIn_of _ (by decide +kernel)) ggL_law_X10_was
set_option maxRecDepth 20000 in
theorem ggL_law_X11_was : GoodIn wsL_law wsX11_was := goodIn_r _ [439, 377, 138, 139, 440, 441, 442, 5, 443, 179, 444, 445, 446, 447, 744, 745, 746, 747, 748, 749, 750, 751, 752, 753, 754, 755, 756, 757, 758, 759, 760, 761, 762, 763, 764, 765, 766, 767, 768, 769, 770, 771, 772, 773, 774, 775, 776, 777, 778] (by decide +kernel) (by decide +kernel)
set_option maxRecDepth 20000 in
theorem gL_law_X11_was : GoodIn wsL_law (wsV RL 57 RX11 yX11_was wsX11_was) := goodIn_app (goodIn_of _ (by decide +kernel)) ggL_law_X11_was
set_option maxRecDepth 20000 in
theorem ggL_law_X10_behind : GoodIn wsL_law wsX10_behind := goodIn_r _ [451, 20, 424, 425, 426, 55, 427, 170, 452, 453, 454, 455, 74, 169, 738, 739, 740, 741, 742, 743, 782, 783, 784, 785, 786, 787, 788, 789, 790, 809, 810, 811, 812, 813, 814] (by decide +kernel) (by decide +kernel)
set_option maxRecDepth 20000 in
theorem gL_law_X10_behind : GoodIn wsL_law (wsV RL 58 RX10 yX10_behind wsX10_behind) := goodIn_app (goodIn_of _ (by decide +kernel)) ggL_law_X10_behind
set_option maxRecDepth 20000 in
theorem ggL_law_X11_behind : GoodIn wsL_law wsX11_behind := goodIn_r _ [459, 140, 440, 441, 442, 5, 443, 179, 444, 445, 446, 447, 744, 745, 746, 747, 748, 749, 750, 751, 752, 753, 754, 755, 756, 757, 758, 759, 760, 761, 762, 763, 764, 765, 766, 767, 768, 769, 770, 771, 772, 773, 774, 775, 776, 777, 778] (by decide +kernel) (by decide +kernel)
set_option maxRecDepth 20000 in
theorem gL_law_X11_behind : GoodIn wsL_law (wsV RL 61 RX11 yX11_behind wsX11_behind) := goodIn_app (goodIn_of _ (by decide +kernel)) ggL_law_X11_behind
set_option maxRecDepth 20000 in
theorem ggL_law_X10_missed : GoodIn wsL_law wsX10_missed := goodIn_r _ [463, 20, 16, 464, 465, 466, 55, 467, 170, 468, 469, 470, 471, 472, 429, 430, 431, 73, 169, 473, 433, 434, 435, 72, 738, 739, 740, 741, 742, 743, 782, 783, 784, 785, 786, 787, 788, 789, 790, 779, 780, 781, 809, 810, 811, 812, 813, 814] (by decide +kernel) (by decide +kernel)
set_option maxRecDepth 20000 in
theorem gL_law_X10_missed : GoodIn wsL_law (wsV RL 62 RX10 yX10_missed wsX10_missed) := goodIn_app (goodIn_of _ (by decide +kernel)) ggL_law_X10_missed
set_option maxRecDepth 20000 in
theorem ggL_law_X11_missed : GoodIn wsL_law wsX11_missed := goodIn_r _ [477, 138, 124, 139, 440, 441, 442, 5, 443, 179, 444, 445, 446, 447, 744, 745, 746, 747, 748, 749, 750, 751, 752, 753, 754, 755, 756, 757, 758, 759, 760, 761, 762, 763, 764, 765, 766, 767, 768, 769, 770, 771, 772, 773, 774, 775, 776, 777, 778] (by decide +kernel) (by decide +kernel)
set_option maxRecDepth 20000 in
theorem gL_law_X11_missed : GoodIn wsL_law (wsV RL 65 RX11 yX11_missed wsX11_missed) := goodIn_app (goodIn_of _ (by decide +kernel)) ggL_law_X11_missed
set_option maxRecDepth 20000 in
theorem ggL_law_X10_ring : GoodIn wsL_law wsX10_ring := goodIn_r _ [481, 24, 291, 292, 2, 293, 294, 247, 193, 194, 482, 483, 484, 23, 485, 486, 487, 488, 489, 490, 103, 101, 102, 491, 492, 493, 494, 301, 302, 61, 303, 86, 304, 305, 306, 307, 84, 308, 309, 310, 311, 312, 88, 85, 313, 314, 315, 15, 316, 42, 44, 41, 317, 318, 319, 320, 321, 322, 323, 324, 83, 87, 325, 326, 327, 82, 328, 222, 92, 96, 329, 330, 331, 332, 94, 95, 93, 333, 334, 335, 336, 337, 338, 339, 340, 265, 266, 267, 268, 495, 496, 497, 498, 499, 500, 501, 502, 738, 739, 740, 741, 742, 743, 791, 792, 793, 794, 782, 783, 784, 785, 786, 787, 788, 789, 790, 815, 816, 817, 818, 819, 820, 779, 780, 781, 821, 822, 823, 824, 825, 826] (by decide +kernel) (by decide +kernel)
set_option maxRecDepth 20000 in
theorem gL_law_X10_ring : GoodIn wsL_law (wsV RL 66 RX10 yX10_ring wsX10_ring) := goodIn_app (goodIn_of _ (by decide +kernel)) ggL_law_X10_ring
set_option maxRecDepth 20000 in
theorem ggL_law_X11_ring : GoodIn wsL_law wsX11_ring := goodIn_r _ [506, 126, 145, 142, 507, 378, 379, 5, 380, 381, 382, 387, 388, 389, 390, 133, 391, 392, 393, 394, 239, 395, 144, 143, 124, 242, 132, 130, 131, 129, 396, 397, 398, 399, 127, 125, 281, 282, 283, 284, 285, 508, 509, 510, 511, 744, 745, 746, 747, 748, 749, 750, 751, 752, 753, 754, 755, 756, 757, 758, 759, 760, 761, 762, 763, 764, 765, 766, 767, 768, 769, 770, 771, 772, 773, 774, 775, 776, 777, 778] (by decide +kernel) (by decide +kernel)
set_option maxRecDepth 20000 in
theorem gL_law_X11_ring : GoodIn wsL_law (wsV RL 69 RX11 yX11_ring wsX11_ring) := goodIn_app (goodIn_of _ (by decide +kernel)) ggL_law_X11_ring
set_option maxRecDepth 20000 in
theorem ggL_law_X10_tail : GoodIn wsL_law wsX10_tail := goodIn_r _ [515, 24, 738, 739, 740, 741, 742, 743, 791, 792, 793, 794] (by decide +kernel) (by decide +kernel)
set_option maxRecDepth 20000 in
theorem gL_law_X10_tail : GoodIn wsL_law (wsV RL 70 RX10 yX10_tail wsX10_tail) := goodIn_app (goodIn_of _ (by decide +kernel)) ggL_law_X10_tail
set_option maxRecDepth 20000 in
theorem ggL_law_X11_tail : GoodIn wsL_law wsX11_tail := goodIn_r _ [519, 507, 744, 745, 746, 747, 748, 749, 750, 751, 752, 753, 754, 755, 756, 757, 758, 759, 760, 761, 762, 763, 764, 765, 766, 767, 768, 769, 770, 771, 772, 773, 774, 775, 776, 777, 778] (by decide +kernel) (by decide +kernel)
set_option maxRecDepth 20000 in
theorem gL_law_X11_tail : GoodIn wsL_law (wsV RL 74 RX11 yX11_tail wsX11_tail) := goodIn_app (goodIn_of _ (by decide +kernel)) ggL_law_X11_tail
set_option maxRecDepth 20000 in
theorem ggL_law_X10_leaves : GoodIn wsL_law wsX10_leaves := goodIn_r _ [523, 24, 291, 292, 2, 293, 294, 247, 193, 194, 524, 525, 526, 23, 527, 103, 101, 491, 492, 493, 494, 301, 302, 61, 303, 86, 304, 305, 306, 307, 84, 308, 309, 310, 311, 312, 88, 85, 313, 314, 315, 15, 316, 42, 44, 41, 317, 318, 319, 320, 321, 322, 323, 324, 83, 87, 325, 326, 327, 82, 328, 222, 92, 96, 329, 330, 331, 332, 94, 95, 93, 333, 334, 335, 336, 337, 338, 339, 340, 265, 266, 267, 268, 528, 529, 530, 531, 738, 739, 740, 741, 742, 743, 791, 792, 793, 794, 782, 783, 784, 785, 786, 787, 788, 789, 790, 815, 816, 817, 818, 819, 820, 779, 780, 781, 821, 822, 823, 824, 825, 826] (by decide +kernel) (by decide +kernel)
set_option maxRecDepth 20000 in
theorem gL_law_X10_leaves : GoodIn wsL_law (wsV RL 75 RX10 yX10_leaves wsX10_leaves) := goodIn_app (goodIn_of _ (by decide +kernel)) ggL_law_X10_leaves
set_option maxRecDepth 20000 in
theorem ggL_law_X11_leaves : GoodIn wsL_law wsX11_leaves := goodIn_r _ [535, 126, 143, 378, 379, 5, 380, 381, 382, 387, 388, 389, 390, 142, 133, 391, 392, 393, 394, 239, 395, 144, 124, 242, 132, 130, 131, 129, 396, 397, 398, 399, 127, 125, 281, 282, 283, 284, 285, 508, 509, 510, 511, 744, 745, 746, 747, 748, 749, 750, 751, 752, 753, 754, 755, 756, 757, 758, 759, 760, 761, 762, 763, 764, 765, 766, 767, 768, 769, 770, 771, 772, 773, 774, 775, 776, 777, 778] (by decide +kernel) (by decide +kernel)
set_option maxRecDepth 20000 in
theorem gL_law_X11_leaves : GoodIn wsL_law (wsV RL 79 RX11 yX11_leaves wsX11_leaves) := goodIn_app (goodIn_of _ (by decide +kernel)) ggL_law_X11_leaves
set_option maxRecDepth 20000 in
theorem ggL_law_X10_box : GoodIn wsL_law wsX10_box := goodIn_r _ [539, 20, 28, 260, 261, 262, 61, 263, 87, 264, 265, 2, 266, 267, 268, 540, 541, 542, 27, 543, 107, 108, 738, 739, 740, 741, 742, 743, 782, 783, 784, 785, 786, 787, 788, 789, 790, 815, 816, 817, 818, 819, 820, 795, 796, 797, 798] (by decide +kernel) (by decide +kernel)
set_option maxRecDepth 20000 in
theorem gL_law_X10_box : GoodIn wsL_law (wsV RL 80 RX10 yX10_box wsX10_box) := goodIn_app (goodIn_of _ (by decide +kernel)) ggL_law_X10_box
set_option maxRecDepth 20000 in
theorem ggL_law_X11_box : GoodIn wsL_law wsX11_box := goodIn_r _ [547, 134, 135, 277, 278, 279, 5, 280, 126, 281, 282, 283, 284, 285, 744, 745, 746, 747, 748, 749, 750, 751, 752, 753, 754, 755, 756, 757, 758, 759, 760, 761, 762, 763, 764, 765, 766, 767, 768, 769, 770, 771, 772, 773, 774, 775, 776, 777, 778] (by decide +kernel) (by decide +kernel)
set_option maxRecDepth 20000 in
theorem gL_law_X11_box : GoodIn wsL_law (wsV RL 84 RX11 yX11_box wsX11_box) := goodIn_app (goodIn_of _ (by decide +kernel)) ggL_law_X11_box
set_option maxRecDepth 20000 in
theorem ggL_law_X10_kept : GoodIn wsL_law wsX10_kept := goodIn_r _ [551, 28, 20, 291, 292, 2, 293, 294, 247, 193, 194, 552, 553, 554, 27, 555, 556, 109, 107, 557, 558, 559, 560, 108, 561, 562, 563, 564, 565, 110, 566, 301, 302, 61, 303, 86, 304, 305, 306, 307, 84, 308, 309, 310, 311, 312, 88, 85, 313, 314, 315, 15, 316, 42, 44, 41, 317, 318, 319, 320, 321, 322, 323, 324, 83, 87, 325, 326, 327, 82, 328, 222, 92, 96, 329, 330, 331, 332, 94, 95, 93, 333, 334, 335, 336, 337, 338, 339, 340, 265, 266, 267, 268, 567, 568, 569, 570, 571, 572, 573, 574, 738, 739, 740, 741, 742, 743, 782, 783, 784, 785, 786, 787, 788, 789, 790, 815, 816, 817, 818, 819, 820, 795, 796, 797, 798, 779, 780, 781, 821, 822, 823, 824, 825, 826] (by decide +kernel) (by decide +kernel)
set_option maxRecDepth 20000 in
theorem gL_law_X10_kept : GoodIn wsL_law (wsV RL 85 RX10 yX10_kept wsX10_kept) := goodIn_app (goodIn_of _ (by decide +kernel)) ggL_law_X10_kept
set_option maxRecDepth 20000 in
theorem ggL_law_X11_kept_ : GoodIn wsL_law wsX11_kept_ := goodIn_r _ [578, 126, 135, 134, 579, 142, 143, 378, 379, 5, 380, 381, 382, 391, 392, 393, 394, 239, 395, 144, 124, 242, 132, 130, 131, 129, 396, 397, 398, 399, 127, 125, 281, 282, 283, 284, 285, 744, 745, 746, 747, 748, 749, 750, 751, 752, 753, 754, 755, 756, 757, 758, 759, 760, 761, 762, 763, 764, 765, 766, 767, 768, 769, 770, 771, 772, 773, 774, 775, 776, 777, 778] (by decide +kernel) (by decide +kernel)
set_option maxRecDepth 20000 in
theorem gL_law_X11_kept_ : GoodIn wsL_law (wsV RL 88 RX11 yX11_kept_ wsX11_kept_) := goodIn_app (goodIn_of _ (by decide +kernel)) ggL_law_X11_kept_
set_option maxRecDepth 20000 in
theorem ggL_law_X10_word : GoodIn wsL_law wsX10_word := goodIn_r _ [583, 16, 294, 584, 585, 586, 587, 738, 739, 740, 741, 742, 743, 779, 780, 781] (by decide +kernel) (by decide +kernel)
set_option maxRecDepth 20000 in
theorem gL_law_X10_word : GoodIn wsL_law (wsV RL 89 RX10 yX10_word wsX10_word) := goodIn_app (goodIn_of _ (by decide +kernel)) ggL_law_X10_word
set_option maxRecDepth 20000 in
theorem ggL_law_X11_word : GoodIn wsL_law wsX11_word := goodIn_r _ [591, 124, 382, 744, 745, 746, 747, 748, 749, 750, 751, 752, 753, 754, 755, 756, 757, 758, 759, 760, 761, 762, 763, 764, 765, 766, 767, 768, 769, 770, 771, 772, 773, 774, 775, 776, 777, 778] (by decide +kernel) (by decide +kernel)
set_option maxRecDepth 20000 in
theorem gL_law_X11_word : GoodIn wsL_law (wsV RL 92 RX11 yX11_word wsX11_word) := goodIn_app (goodIn_of _ (by decide +kernel)) ggL_law_X11_word
set_option maxRecDepth 20000 in
theorem ggL_law_X10_even : GoodIn wsL_law wsX10_even := goodIn_r _ [595, 20, 464, 465, 466, 55, 467, 170, 596, 597, 598, 599, 75, 472, 429, 430, 431, 73, 169, 600, 601, 602, 603, 349, 350, 351, 352, 604, 359, 360, 738, 739, 740, 741, 742, 743, 782, 783, 784, 785, 786, 787, 788, 789, 790, 809, 810, 811, 812, 813, 814] (by decide +kernel) (by decide +kernel)
set_option maxRecDepth 20000 in
theorem gL_law_X10_even : GoodIn wsL_law (wsV RL 93 RX10 yX10_even wsX10_even) := goodIn_app (goodIn_of _ (by decide +kernel)) ggL_law_X10_even
set_option maxRecDepth 20000 in
theorem ggL_law_X11_even : GoodIn wsL_law wsX11_even := goodIn_r _ [608, 284, 285, 138, 440, 441, 442, 5, 443, 179, 444, 445, 446, 447, 744, 745, 746, 747, 748, 749, 750, 751, 752, 753, 754, 755, 756, 757, 758, 759, 760, 761, 762, 763, 764, 765, 766, 767, 768, 769, 770, 771, 772, 773, 774, 775, 776, 777, 778] (by decide +kernel) (by decide +kernel)
set_option maxRecDepth 20000 in
theorem gL_law_X11_even : GoodIn wsL_law (wsV RL 96 RX11 yX11_even wsX11_even) := goodIn_app (goodIn_of _ (by decide +kernel)) ggL_law_X11_even
set_option maxRecDepth 20000 in
theorem ggL_law_X10_weight : GoodIn wsL_law wsX10_weight := goodIn_r _ [612, 32, 247, 193, 2, 194, 613, 614, 615, 31, 616, 617, 114, 738, 739, 740, 741, 742, 743, 799, 800] (by decide +kernel) (by decide +kernel)
set_option maxRecDepth 20000 in
theorem gL_law_X10_weight : GoodIn wsL_law (wsV RL 97 RX10 yX10_weight wsX10_weight) := goodIn_app (goodIn_of _ (by decide +kernel)) ggL_law_X10_weight
set_option maxRecDepth 20000 in
theorem ggL_law_X11_weight : GoodIn wsL_law wsX11_weight := goodIn_r _ [621, 622, 141, 744, 745, 746, 747, 748, 749, 750, 751, 752, 753, 754, 755, 756, 757, 758, 759, 760, 761, 762, 763, 764, 765, 766, 767, 768, 769, 770, 771, 772, 773, 774, 775, 776, 777, 778] (by decide +kernel) (by decide +kernel)
set_option maxRecDepth 20000 in
theorem gL_law_X11_weight : GoodIn wsL_law (wsV RL 100 RX11 yX11_weight wsX11_weight) := goodIn_app (goodIn_of _ (by decide +kernel)) ggL_law_X11_weight
set_option maxRecDepth 20000 in
theorem ggL_law_X10_clear : GoodIn wsL_law wsX10_clear := goodIn_r _ [626, 32, 627, 628, 629, 31, 630, 617, 738, 739, 740, 741, 742, 743, 799, 800] (by decide +kernel) (by decide +kernel)
set_option maxRecDepth 20000 in
theorem gL_law_X10_clear : GoodIn wsL_law (wsV RL 101 RX10 yX10_clear wsX10_clear) := goodIn_app (goodIn_of _ (by decide +kernel)) ggL_law_X10_clear
set_option maxRecDepth 20000 in
theorem ggL_law_X11_clear : GoodIn wsL_law wsX11_clear := goodIn_r _ [634, 622, 744, 745, 746, 747, 748, 749, 750, 751, 752, 753, 754, 755, 756, 757, 758, 759, 760, 761, 762, 763, 764, 765, 766, 767, 768, 769, 770, 771, 772, 773, 774, 775, 776, 777, 778] (by decide +kernel) (by decide +kernel)
set_option maxRecDepth 20000 in
theorem gL_law_X11_clear : GoodIn wsL_law (wsV RL 104 RX11 yX11_clear wsX11_clear) := goodIn_app (goodIn_of _ (by decide +kernel)) ggL_law_X11_clear
set_option maxRecDepth 20000 in
theorem ggL_law_X10_read : GoodIn wsL_law wsX10_read := goodIn_r _ [638, 32, 20, 639, 640, 641, 31, 642, 617, 114, 643, 425, 426, 55, 427, 170, 644, 429, 430, 431, 73, 169, 738, 739, 740, 741, 742, 743, 782, 783, 784, 785, 786, 787, 788, 789, 790, 799, 800, 809, 810, 811, 812, 813, 814] (by decide +kernel) (by decide +kernel)
set_option maxRecDepth 20000 in
theorem gL_law_X10_read : GoodIn wsL_law (wsV RL 105 RX10 yX10_read wsX10_read) := goodIn_app (goodIn_of _ (by decide +kernel)) ggL_law_X10_read
set_option maxRecDepth 20000 in
theorem ggL_law_X11_read : GoodIn wsL_law wsX11_read := goodIn_r _ [648, 622, 141, 138, 440, 441, 442, 5, 443, 179, 444, 445, 446, 447, 744, 745, 746, 747, 748, 749, 750, 751, 752, 753, 754, 755, 756, 757, 758, 759, 760, 761, 762, 763, 764, 765, 766, 767, 768, 769, 770, 771, 772, 773, 774, 775, 776, 777, 778] (by decide +kernel) (by decide +kernel)
set_option maxRecDepth 20000 in
theorem gL_law_X11_read : GoodIn wsL_law (wsV RL 109 RX11 yX11_read wsX11_read) := goodIn_app (goodIn_of _ (by decide +kernel)) ggL_law_X11_read
set_option maxRecDepth 20000 in
theorem ggL_law_X10_back : GoodIn wsL_law wsX10_back := goodIn_r _ [652, 20, 290, 36, 653, 654, 655, 19, 656, 62, 156, 155, 56, 657, 465, 466, 55, 467, 170, 658, 659, 660, 35, 661, 662, 663, 664, 665, 119, 666, 667, 351, 668, 669, 670, 671, 672, 429, 430, 431, 73, 169, 673, 314, 315, 15, 316, 42, 44, 41, 674, 585, 586, 587, 675, 318, 319, 320, 738, 739, 740, 741, 742, 743, 782, 783, 784, 785, 786, 787, 788, 789, 790, 801, 802, 803, 815, 816, 817, 818, 819, 820, 809, 810, 811, 812, 813, 814, 779, 780, 781] (by decide +kernel) (by decide +kernel)
set_option maxRecDepth 20000 in
theorem gL_law_X10_back : GoodIn wsL_law (wsV RL 110 RX10 yX10_back wsX10_back) := goodIn_app (goodIn_of _ (by decide +kernel)) ggL_law_X10_back
set_option maxRecDepth 20000 in
theorem ggL_law_X11_back : GoodIn wsL_law wsX11_back := goodIn_r _ [679, 179, 239, 184, 377, 680, 681, 138, 127, 124, 125, 682, 683, 5, 684, 744, 745, 746, 747, 748, 749, 750, 751, 752, 753, 754, 755, 756, 757, 758, 759, 760, 761, 762, 763, 764, 765, 766, 767, 768, 769, 770, 771, 772, 773, 774, 775, 776, 777, 778] (by decide +kernel) (by decide +kernel)
set_option maxRecDepth 20000 in
theorem gL_law_X11_back : GoodIn wsL_law (wsV RL 113 RX11 yX11_back wsX11_back) := goodIn_app (goodIn_of _ (by decide +kernel)) ggL_law_X11_back
set_option maxRecDepth 20000 in
theorem ggL_law_X10_range : GoodIn wsL_law wsX10_range := goodIn_r _ [688, 36, 291, 292, 2, 293, 294, 247, 193, 194, 689, 690, 691, 35, 692, 693, 694, 695, 696, 697, 119, 669, 670, 351, 671, 673, 314, 315, 15, 316, 42, 44, 41, 675, 318, 319, 320, 674, 585, 586, 587, 738, 739, 740, 741, 742, 743, 801, 802, 803, 779, 780, 781] (by decide +kernel) (by decide +kernel)
set_option maxRecDepth 20000 in
theorem gL_law_X10_range : GoodIn wsL_law (wsV RL 114 RX10 yX10_range wsX10_range) := goodIn_app (goodIn_of _ (by decide +kernel)) ggL_law_X10_range
set_option maxRecDepth 20000 in
theorem ggL_law_X11_range : GoodIn wsL_law wsX11_range := goodIn_r _ [701, 124, 146, 378, 379, 5, 380, 381, 382, 396, 397, 398, 399, 127, 125, 744, 745, 746, 747, 748, 749, 750, 751, 752, 753, 754, 755, 756, 757, 758, 759, 760, 761, 762, 763, 764, 765, 766, 767, 768, 769, 770, 771, 772, 773, 774, 775, 776, 777, 778] (by decide +kernel) (by decide +kernel)
set_option maxRecDepth 20000 in
theorem gL_law_X11_range : GoodIn wsL_law (wsV RL 118 RX11 yX11_range wsX11_range) := goodIn_app (goodIn_of _ (by decide +kernel)) ggL_law_X11_range
set_option maxRecDepth 20000 in
theorem ggL_law_X10_part : GoodIn wsL_law wsX10_part := goodIn_r _ [705, 20, 738, 739, 740, 741, 742, 743, 782, 783, 784, 785, 786, 787, 788, 789, 790, 804, 805, 806, 807, 808] (by decide +kernel) (by decide +kernel)
set_option maxRecDepth 20000 in
theorem gL_law_X10_part : GoodIn wsL_law (wsV RL 119 RX10 yX10_part wsX10_part) := goodIn_app (goodIn_of _ (by decide +kernel)) ggL_law_X10_part
set_option maxRecDepth 20000 in
theorem ggL_law_X11_part : GoodIn wsL_law wsX11_part := goodIn_r _ [709, 241, 136, 137, 744, 745, 746, 747, 748, 749, 750, 751, 752, 753, 754, 755, 756, 757, 758, 759, 760, 761, 762, 763, 764, 765, 766, 767, 768, 769, 770, 771, 772, 773, 774, 775, 776, 777, 778] (by decide +kernel) (by decide +kernel)
set_option maxRecDepth 20000 in
theorem gL_law_X11_part : GoodIn wsL_law (wsV RL 122 RX11 yX11_part wsX11_part) := goodIn_app (goodIn_of _ (by decide +kernel)) ggL_law_X11_part
set_option maxRecDepth 20000 in
theorem ggL_law_X10_spread : GoodIn wsL_law wsX10_spread := goodIn_r _ [713, 20, 714, 715, 716, 51, 717, 68, 227, 357, 350, 351, 352, 358, 359, 360, 738, 739, 740, 741, 742, 743, 782, 783, 784, 785, 786, 787, 788, 789, 790, 815, 816, 817, 818, 819, 820, 804, 805, 806, 807, 808] (by decide +kernel) (by decide +kernel)
set_option maxRecDepth 20000 in
theorem gL_law_X10_spread : GoodIn wsL_law (wsV RL 123 RX10 yX10_spread wsX10_spread) := goodIn_app (goodIn_of _ (by decide +kernel)) ggL_law_X10_spread
set_option maxRecDepth 20000 in
theorem ggL_law_X11_spread : GoodIn wsL_law wsX11_spread := goodIn_r _ [721, 239, 137, 241, 744, 745, 746, 747, 748, 749, 750, 751, 752, 753, 754, 755, 756, 757, 758, 759, 760, 761, 762, 763, 764, 765, 766, 767, 768, 769, 770, 771, 772, 773, 774, 775, 776, 777, 778] (by decide +kernel) (by decide +kernel)
set_option maxRecDepth 20000 in
theorem gL_law_X11_spread : GoodIn wsL_law (wsV RL 126 RX11 yX11_spread wsX11_spread) := goodIn_app (goodIn_of _ (by decide +kernel)) ggL_law_X11_spread
set_option maxRecDepth 20000 in
theorem ggL_law_X10_about : GoodIn wsL_law wsX10_about := goodIn_r _ [725, 16, 20, 32, 738, 739, 740, 741, 742, 743, 779, 780, 781, 782, 783, 784, 785, 786, 787, 788, 789, 790, 815, 816, 817, 818, 819, 820, 804, 805, 806, 807, 808, 809, 810, 811, 812, 813, 814, 799, 800] (by decide +kernel) (by decide +kernel)
set_option maxRecDepth 20000 in
theorem gL_law_X10_about : GoodIn wsL_law (wsV RL 127 RX10 yX10_about wsX10_about) := goodIn_app (goodIn_of _ (by decide +kernel)) ggL_law_X10_about
set_option maxRecDepth 20000 in
theorem ggL_law_X11_about : GoodIn wsL_law wsX11_about := goodIn_r _ [729, 124, 125, 239, 126, 241, 179, 622, 180, 440, 441, 442, 5, 443, 744, 745, 746, 747, 748, 749, 750, 751, 752, 753, 754, 755, 756, 757, 758, 759, 760, 761, 762, 763, 764, 765, 766, 767, 768, 769, 770, 771, 772, 773, 774, 775, 776, 777, 778] (by decide +kernel) (by decide +kernel)
set_option maxRecDepth 20000 in
theorem gL_law_X11_about : GoodIn wsL_law (wsV RL 130 RX11 yX11_about wsX11_about) := goodIn_app (goodIn_of _ (by decide +kernel)) ggL_law_X11_about
set_option maxRecDepth 20000 in
theorem ggL_law_X10_step : GoodIn wsL_law wsX10_step := goodIn_r _ [733, 16, 290, 738, 739, 740, 741, 742, 743, 779, 780, 781] (by decide +kernel) (by decide +kernel)
set_option maxRecDepth 20000 in
theorem gL_law_X10_step : GoodIn wsL_law (wsV RL 131 RX10 yX10_step wsX10_step) := goodIn_app (goodIn_of _ (by decide +kernel)) ggL_law_X10_step
set_option maxRecDepth 20000 in
theorem ggL_law_X11_step : GoodIn wsL_law wsX11_step := goodIn_r _ [737, 125, 377, 127, 744, 745, 746, 747, 748, 749, 750, 751, 752, 753, 754, 755, 756, 757, 758, 759, 760, 761, 762, 763, 764, 765, 766, 767, 768, 769, 770, 771, 772, 773, 774, 775, 776, 777, 778] (by decide +kernel) (by decide +kernel)
set_option maxRecDepth 20000 in
theorem gL_law_X11_step : GoodIn wsL_law (wsV RL 134 RX11 yX11_step wsX11_step) := goodIn_app (goodIn_of _ (by decide +kernel)) ggL_law_X11_step
theorem dL_law_0 : decode cL_law 0 = .ok (.new 7, 3) := by decide +kernel
theorem dL_law_3 : decode cL_law 3 = .ok (.dup, 1) := by decide +kernel
theorem dL_law_4 : decode cL_law 4 = .ok (.invokespecial 9, 3) := by decide +kernel
theorem dL_law_7 : decode cL_law 7 = .ok (.astore_n 1, 1) := by decide +kernel
theorem dL_law_8 : decode cL_law 8 = .ok (.new 10, 3) := by decide +kernel
theorem dL_law_11 : decode cL_law 11 = .ok (.dup, 1) := by decide +kernel
theorem dL_law_12 : decode cL_law 12 = .ok (.invokespecial 12, 3) := by decide +kernel
theorem dL_law_15 : decode cL_law 15 = .ok (.astore_n 2, 1) := by decide +kernel
theorem dL_law_16 : decode cL_law 16 = .ok (.iconst 0, 1) := by decide +kernel
theorem dL_law_17 : decode cL_law 17 = .ok (.istore_n 3, 1) := by decide +kernel
theorem dL_law_18 : decode cL_law 18 = .ok (.iload_n 3, 1) := by decide +kernel
theorem dL_law_19 : decode cL_law 19 = .ok (.aload_n 0, 1) := by decide +kernel
theorem dL_law_20 : decode cL_law 20 = .ok (.arraylength, 1) := by decide +kernel
theorem dL_law_21 : decode cL_law 21 = .ok (.bipush 10, 2) := by decide +kernel
theorem dL_law_23 : decode cL_law 23 = .ok (.isub, 1) := by decide +kernel
theorem dL_law_24 : decode cL_law 24 = .ok (.if_icmp .gt 1091, 3) := by decide +kernel
theorem dL_law_27 : decode cL_law 27 = .ok (.aload_n 0, 1) := by decide +kernel
theorem dL_law_28 : decode cL_law 28 = .ok (.iload_n 3, 1) := by decide +kernel
theorem dL_law_29 : decode cL_law 29 = .ok (.iaload, 1) := by decide +kernel
theorem dL_law_30 : decode cL_law 30 = .ok (.bipush 31, 2) := by decide +kernel
theorem dL_law_32 : decode cL_law 32 = .ok (.iand, 1) := by decide +kernel
theorem dL_law_33 : decode cL_law 33 = .ok (.tableswitch 1076 0 26 #[123, 146, 257, 300, 343, 406, 429, 462, 486, 519, 543, 567, 590, 603, 666, 769, 802, 835, 858, 881, 894, 908, 941, 984, 1017, 1030, 1053], 123) := by decide +kernel
theorem dL_law_156 : decode cL_law 156 = .ok (.aload_n 1, 1) := by decide +kernel
theorem dL_law_157 : decode cL_law 157 = .ok (.aload_n 0, 1) := by decide +kernel
theorem dL_law_158 : decode cL_law 158 = .ok (.iload_n 3, 1) := by decide +kernel
theorem dL_law_159 : decode cL_law 159 = .ok (.iconst 1, 1) := by decide +kernel
theorem dL_law_160 : decode cL_law 160 = .ok (.iadd, 1) := by decide +kernel
theorem dL_law_161 : decode cL_law 161 = .ok (.iaload, 1) := by decide +kernel
theorem dL_law_162 : decode cL_law 162 = .ok (.invokevirtual 13, 3) := by decide +kernel
theorem dL_law_165 : decode cL_law 165 = .ok (.aload_n 2, 1) := by decide +kernel
theorem dL_law_166 : decode cL_law 166 = .ok (.aload_n 0, 1) := by decide +kernel
theorem dL_law_167 : decode cL_law 167 = .ok (.iload_n 3, 1) := by decide +kernel
theorem dL_law_168 : decode cL_law 168 = .ok (.iconst 1, 1) := by decide +kernel
theorem dL_law_169 : decode cL_law 169 = .ok (.iadd, 1) := by decide +kernel
theorem dL_law_170 : decode cL_law 170 = .ok (.iaload, 1) := by decide +kernel
theorem dL_law_171 : decode cL_law 171 = .ok (.invokevirtual 17, 3) := by decide +kernel
theorem dL_law_174 : decode cL_law 174 = .ok (.if_icmp .eq 935, 3) := by decide +kernel
theorem dL_law_177 : decode cL_law 177 = .ok (.iconst 0, 1) := by decide +kernel
theorem dL_law_178 : decode cL_law 178 = .ok (.ireturn, 1) := by decide +kernel
theorem dL_law_179 : decode cL_law 179 = .ok (.aload_n 1, 1) := by decide +kernel
theorem dL_law_180 : decode cL_law 180 = .ok (.aload_n 0, 1) := by decide +kernel
theorem dL_law_181 : decode cL_law 181 = .ok (.iload_n 3, 1) := by decide +kernel
theorem dL_law_182 : decode cL_law 182 = .ok (.iconst 1, 1) := by decide +kernel
theorem dL_law_183 : decode cL_law 183 = .ok (.iadd, 1) := by decide +kernel
theorem dL_law_184 : decode cL_law 184 = .ok (.iaload, 1) := by decide +kernel
theorem dL_law_185 : decode cL_law 185 = .ok (.aload_n 0, 1) := by decide +kernel
theorem dL_law_186 : decode cL_law 186 = .ok (.iload_n 3, 1) := by decide +kernel
theorem dL_law_187 : decode cL_law 187 = .ok (.iconst 2, 1) := by decide +kernel
theorem dL_law_188 : decode cL_law 188 = .ok (.iadd, 1) := by decide +kernel
theorem dL_law_189 : decode cL_law 189 = .ok (.iaload, 1) := by decide +kernel
theorem dL_law_190 : decode cL_law 190 = .ok (.aload_n 0, 1) := by decide +kernel
theorem dL_law_191 : decode cL_law 191 = .ok (.iload_n 3, 1) := by decide +kernel
theorem dL_law_192 : decode cL_law 192 = .ok (.iconst 3, 1) := by decide +kernel
theorem dL_law_193 : decode cL_law 193 = .ok (.iadd, 1) := by decide +kernel
theorem dL_law_194 : decode cL_law 194 = .ok (.iaload, 1) := by decide +kernel
theorem dL_law_195 : decode cL_law 195 = .ok (.aload_n 0, 1) := by decide +kernel
theorem dL_law_196 : decode cL_law 196 = .ok (.iload_n 3, 1) := by decide +kernel
theorem dL_law_197 : decode cL_law 197 = .ok (.iconst 4, 1) := by decide +kernel
theorem dL_law_198 : decode cL_law 198 = .ok (.iadd, 1) := by decide +kernel
theorem dL_law_199 : decode cL_law 199 = .ok (.iaload, 1) := by decide +kernel
theorem dL_law_200 : decode cL_law 200 = .ok (.aload_n 0, 1) := by decide +kernel
theorem dL_law_201 : decode cL_law 201 = .ok (.iload_n 3, 1) := by decide +kernel
theorem dL_law_202 : decode cL_law 202 = .ok (.iconst 5, 1) := by decide +kernel
theorem dL_law_203 : decode cL_law 203 = .ok (.iadd, 1) := by decide +kernel
theorem dL_law_204 : decode cL_law 204 = .ok (.iaload, 1) := by decide +kernel
theorem dL_law_205 : decode cL_law 205 = .ok (.aload_n 0, 1) := by decide +kernel
theorem dL_law_206 : decode cL_law 206 = .ok (.iload_n 3, 1) := by decide +kernel
theorem dL_law_207 : decode cL_law 207 = .ok (.bipush 6, 2) := by decide +kernel
theorem dL_law_209 : decode cL_law 209 = .ok (.iadd, 1) := by decide +kernel
theorem dL_law_210 : decode cL_law 210 = .ok (.iaload, 1) := by decide +kernel
theorem dL_law_211 : decode cL_law 211 = .ok (.aload_n 0, 1) := by decide +kernel
theorem dL_law_212 : decode cL_law 212 = .ok (.iload_n 3, 1) := by decide +kernel
theorem dL_law_213 : decode cL_law 213 = .ok (.bipush 7, 2) := by decide +kernel
theorem dL_law_215 : decode cL_law 215 = .ok (.iadd, 1) := by decide +kernel
theorem dL_law_216 : decode cL_law 216 = .ok (.iaload, 1) := by decide +kernel
theorem dL_law_217 : decode cL_law 217 = .ok (.aload_n 0, 1) := by decide +kernel
theorem dL_law_218 : decode cL_law 218 = .ok (.iload_n 3, 1) := by decide +kernel
theorem dL_law_219 : decode cL_law 219 = .ok (.bipush 8, 2) := by decide +kernel
theorem dL_law_221 : decode cL_law 221 = .ok (.iadd, 1) := by decide +kernel
theorem dL_law_222 : decode cL_law 222 = .ok (.iaload, 1) := by decide +kernel
theorem dL_law_223 : decode cL_law 223 = .ok (.aload_n 0, 1) := by decide +kernel
theorem dL_law_224 : decode cL_law 224 = .ok (.iload_n 3, 1) := by decide +kernel
theorem dL_law_225 : decode cL_law 225 = .ok (.bipush 9, 2) := by decide +kernel
theorem dL_law_227 : decode cL_law 227 = .ok (.iadd, 1) := by decide +kernel
theorem dL_law_228 : decode cL_law 228 = .ok (.iaload, 1) := by decide +kernel
theorem dL_law_229 : decode cL_law 229 = .ok (.invokevirtual 18, 3) := by decide +kernel
theorem dL_law_232 : decode cL_law 232 = .ok (.aload_n 2, 1) := by decide +kernel
theorem dL_law_233 : decode cL_law 233 = .ok (.aload_n 0, 1) := by decide +kernel
theorem dL_law_234 : decode cL_law 234 = .ok (.iload_n 3, 1) := by decide +kernel
theorem dL_law_235 : decode cL_law 235 = .ok (.iconst 1, 1) := by decide +kernel
theorem dL_law_236 : decode cL_law 236 = .ok (.iadd, 1) := by decide +kernel
theorem dL_law_237 : decode cL_law 237 = .ok (.iaload, 1) := by decide +kernel
theorem dL_law_238 : decode cL_law 238 = .ok (.aload_n 0, 1) := by decide +kernel
theorem dL_law_239 : decode cL_law 239 = .ok (.iload_n 3, 1) := by decide +kernel
theorem dL_law_240 : decode cL_law 240 = .ok (.iconst 2, 1) := by decide +kernel
theorem dL_law_241 : decode cL_law 241 = .ok (.iadd, 1) := by decide +kernel
theorem dL_law_242 : decode cL_law 242 = .ok (.iaload, 1) := by decide +kernel
theorem dL_law_243 : decode cL_law 243 = .ok (.aload_n 0, 1) := by decide +kernel
theorem dL_law_244 : decode cL_law 244 = .ok (.iload_n 3, 1) := by decide +kernel
theorem dL_law_245 : decode cL_law 245 = .ok (.iconst 3, 1) := by decide +kernel
theorem dL_law_246 : decode cL_law 246 = .ok (.iadd, 1) := by decide +kernel
theorem dL_law_247 : decode cL_law 247 = .ok (.iaload, 1) := by decide +kernel
theorem dL_law_248 : decode cL_law 248 = .ok (.aload_n 0, 1) := by decide +kernel
theorem dL_law_249 : decode cL_law 249 = .ok (.iload_n 3, 1) := by decide +kernel
theorem dL_law_250 : decode cL_law 250 = .ok (.iconst 4, 1) := by decide +kernel
theorem dL_law_251 : decode cL_law 251 = .ok (.iadd, 1) := by decide +kernel
theorem dL_law_252 : decode cL_law 252 = .ok (.iaload, 1) := by decide +kernel
theorem dL_law_253 : decode cL_law 253 = .ok (.aload_n 0, 1) := by decide +kernel
theorem dL_law_254 : decode cL_law 254 = .ok (.iload_n 3, 1) := by decide +kernel
theorem dL_law_255 : decode cL_law 255 = .ok (.iconst 5, 1) := by decide +kernel
theorem dL_law_256 : decode cL_law 256 = .ok (.iadd, 1) := by decide +kernel
theorem dL_law_257 : decode cL_law 257 = .ok (.iaload, 1) := by decide +kernel
theorem dL_law_258 : decode cL_law 258 = .ok (.aload_n 0, 1) := by decide +kernel
theorem dL_law_259 : decode cL_law 259 = .ok (.iload_n 3, 1) := by decide +kernel
theorem dL_law_260 : decode cL_law 260 = .ok (.bipush 6, 2) := by decide +kernel
theorem dL_law_262 : decode cL_law 262 = .ok (.iadd, 1) := by decide +kernel
theorem dL_law_263 : decode cL_law 263 = .ok (.iaload, 1) := by decide +kernel
theorem dL_law_264 : decode cL_law 264 = .ok (.aload_n 0, 1) := by decide +kernel
theorem dL_law_265 : decode cL_law 265 = .ok (.iload_n 3, 1) := by decide +kernel
theorem dL_law_266 : decode cL_law 266 = .ok (.bipush 7, 2) := by decide +kernel
theorem dL_law_268 : decode cL_law 268 = .ok (.iadd, 1) := by decide +kernel
theorem dL_law_269 : decode cL_law 269 = .ok (.iaload, 1) := by decide +kernel
theorem dL_law_270 : decode cL_law 270 = .ok (.aload_n 0, 1) := by decide +kernel
theorem dL_law_271 : decode cL_law 271 = .ok (.iload_n 3, 1) := by decide +kernel
theorem dL_law_272 : decode cL_law 272 = .ok (.bipush 8, 2) := by decide +kernel
theorem dL_law_274 : decode cL_law 274 = .ok (.iadd, 1) := by decide +kernel
theorem dL_law_275 : decode cL_law 275 = .ok (.iaload, 1) := by decide +kernel
theorem dL_law_276 : decode cL_law 276 = .ok (.aload_n 0, 1) := by decide +kernel
theorem dL_law_277 : decode cL_law 277 = .ok (.iload_n 3, 1) := by decide +kernel
theorem dL_law_278 : decode cL_law 278 = .ok (.bipush 9, 2) := by decide +kernel
theorem dL_law_280 : decode cL_law 280 = .ok (.iadd, 1) := by decide +kernel
theorem dL_law_281 : decode cL_law 281 = .ok (.iaload, 1) := by decide +kernel
theorem dL_law_282 : decode cL_law 282 = .ok (.invokevirtual 22, 3) := by decide +kernel
theorem dL_law_285 : decode cL_law 285 = .ok (.if_icmp .eq 824, 3) := by decide +kernel
theorem dL_law_288 : decode cL_law 288 = .ok (.iconst 0, 1) := by decide +kernel
theorem dL_law_289 : decode cL_law 289 = .ok (.ireturn, 1) := by decide +kernel
theorem dL_law_290 : decode cL_law 290 = .ok (.aload_n 1, 1) := by decide +kernel
theorem dL_law_291 : decode cL_law 291 = .ok (.aload_n 0, 1) := by decide +kernel
theorem dL_law_292 : decode cL_law 292 = .ok (.iload_n 3, 1) := by decide +kernel
theorem dL_law_293 : decode cL_law 293 = .ok (.iconst 1, 1) := by decide +kernel
theorem dL_law_294 : decode cL_law 294 = .ok (.iadd, 1) := by decide +kernel
theorem dL_law_295 : decode cL_law 295 = .ok (.iaload, 1) := by decide +kernel
theorem dL_law_296 : decode cL_law 296 = .ok (.aload_n 0, 1) := by decide +kernel
theorem dL_law_297 : decode cL_law 297 = .ok (.iload_n 3, 1) := by decide +kernel
theorem dL_law_298 : decode cL_law 298 = .ok (.iconst 2, 1) := by decide +kernel
theorem dL_law_299 : decode cL_law 299 = .ok (.iadd, 1) := by decide +kernel
theorem dL_law_300 : decode cL_law 300 = .ok (.iaload, 1) := by decide +kernel
theorem dL_law_301 : decode cL_law 301 = .ok (.aload_n 0, 1) := by decide +kernel
theorem dL_law_302 : decode cL_law 302 = .ok (.iload_n 3, 1) := by decide +kernel
theorem dL_law_303 : decode cL_law 303 = .ok (.iconst 3, 1) := by decide +kernel
theorem dL_law_304 : decode cL_law 304 = .ok (.iadd, 1) := by decide +kernel
theorem dL_law_305 : decode cL_law 305 = .ok (.iaload, 1) := by decide +kernel
theorem dL_law_306 : decode cL_law 306 = .ok (.invokevirtual 23, 3) := by decide +kernel
theorem dL_law_309 : decode cL_law 309 = .ok (.aload_n 2, 1) := by decide +kernel
theorem dL_law_310 : decode cL_law 310 = .ok (.aload_n 0, 1) := by decide +kernel
theorem dL_law_311 : decode cL_law 311 = .ok (.iload_n 3, 1) := by decide +kernel
theorem dL_law_312 : decode cL_law 312 = .ok (.iconst 1, 1) := by decide +kernel
theorem dL_law_313 : decode cL_law 313 = .ok (.iadd, 1) := by decide +kernel
theorem dL_law_314 : decode cL_law 314 = .ok (.iaload, 1) := by decide +kernel
theorem dL_law_315 : decode cL_law 315 = .ok (.aload_n 0, 1) := by decide +kernel
theorem dL_law_316 : decode cL_law 316 = .ok (.iload_n 3, 1) := by decide +kernel
theorem dL_law_317 : decode cL_law 317 = .ok (.iconst 2, 1) := by decide +kernel
theorem dL_law_318 : decode cL_law 318 = .ok (.iadd, 1) := by decide +kernel
theorem dL_law_319 : decode cL_law 319 = .ok (.iaload, 1) := by decide +kernel
theorem dL_law_320 : decode cL_law 320 = .ok (.aload_n 0, 1) := by decide +kernel
theorem dL_law_321 : decode cL_law 321 = .ok (.iload_n 3, 1) := by decide +kernel
theorem dL_law_322 : decode cL_law 322 = .ok (.iconst 3, 1) := by decide +kernel
theorem dL_law_323 : decode cL_law 323 = .ok (.iadd, 1) := by decide +kernel
theorem dL_law_324 : decode cL_law 324 = .ok (.iaload, 1) := by decide +kernel
theorem dL_law_325 : decode cL_law 325 = .ok (.invokevirtual 27, 3) := by decide +kernel
theorem dL_law_328 : decode cL_law 328 = .ok (.if_icmp .eq 781, 3) := by decide +kernel
theorem dL_law_331 : decode cL_law 331 = .ok (.iconst 0, 1) := by decide +kernel
theorem dL_law_332 : decode cL_law 332 = .ok (.ireturn, 1) := by decide +kernel
theorem dL_law_333 : decode cL_law 333 = .ok (.aload_n 1, 1) := by decide +kernel
theorem dL_law_334 : decode cL_law 334 = .ok (.aload_n 0, 1) := by decide +kernel
theorem dL_law_335 : decode cL_law 335 = .ok (.iload_n 3, 1) := by decide +kernel
theorem dL_law_336 : decode cL_law 336 = .ok (.iconst 1, 1) := by decide +kernel
theorem dL_law_337 : decode cL_law 337 = .ok (.iadd, 1) := by decide +kernel
theorem dL_law_338 : decode cL_law 338 = .ok (.iaload, 1) := by decide +kernel
theorem dL_law_339 : decode cL_law 339 = .ok (.aload_n 0, 1) := by decide +kernel
theorem dL_law_340 : decode cL_law 340 = .ok (.iload_n 3, 1) := by decide +kernel
theorem dL_law_341 : decode cL_law 341 = .ok (.iconst 2, 1) := by decide +kernel
theorem dL_law_342 : decode cL_law 342 = .ok (.iadd, 1) := by decide +kernel
theorem dL_law_343 : decode cL_law 343 = .ok (.iaload, 1) := by decide +kernel
theorem dL_law_344 : decode cL_law 344 = .ok (.aload_n 0, 1) := by decide +kernel
theorem dL_law_345 : decode cL_law 345 = .ok (.iload_n 3, 1) := by decide +kernel
theorem dL_law_346 : decode cL_law 346 = .ok (.iconst 3, 1) := by decide +kernel
theorem dL_law_347 : decode cL_law 347 = .ok (.iadd, 1) := by decide +kernel
theorem dL_law_348 : decode cL_law 348 = .ok (.iaload, 1) := by decide +kernel
theorem dL_law_349 : decode cL_law 349 = .ok (.invokevirtual 28, 3) := by decide +kernel
theorem dL_law_352 : decode cL_law 352 = .ok (.aload_n 2, 1) := by decide +kernel
theorem dL_law_353 : decode cL_law 353 = .ok (.aload_n 0, 1) := by decide +kernel
theorem dL_law_354 : decode cL_law 354 = .ok (.iload_n 3, 1) := by decide +kernel
theorem dL_law_355 : decode cL_law 355 = .ok (.iconst 1, 1) := by decide +kernel
theorem dL_law_356 : decode cL_law 356 = .ok (.iadd, 1) := by decide +kernel
theorem dL_law_357 : decode cL_law 357 = .ok (.iaload, 1) := by decide +kernel
theorem dL_law_358 : decode cL_law 358 = .ok (.aload_n 0, 1) := by decide +kernel
theorem dL_law_359 : decode cL_law 359 = .ok (.iload_n 3, 1) := by decide +kernel
theorem dL_law_360 : decode cL_law 360 = .ok (.iconst 2, 1) := by decide +kernel
theorem dL_law_361 : decode cL_law 361 = .ok (.iadd, 1) := by decide +kernel
theorem dL_law_362 : decode cL_law 362 = .ok (.iaload, 1) := by decide +kernel
theorem dL_law_363 : decode cL_law 363 = .ok (.aload_n 0, 1) := by decide +kernel
theorem dL_law_364 : decode cL_law 364 = .ok (.iload_n 3, 1) := by decide +kernel
theorem dL_law_365 : decode cL_law 365 = .ok (.iconst 3, 1) := by decide +kernel
theorem dL_law_366 : decode cL_law 366 = .ok (.iadd, 1) := by decide +kernel
theorem dL_law_367 : decode cL_law 367 = .ok (.iaload, 1) := by decide +kernel
theorem dL_law_368 : decode cL_law 368 = .ok (.invokevirtual 31, 3) := by decide +kernel
theorem dL_law_371 : decode cL_law 371 = .ok (.if_icmp .eq 738, 3) := by decide +kernel
theorem dL_law_374 : decode cL_law 374 = .ok (.iconst 0, 1) := by decide +kernel
theorem dL_law_375 : decode cL_law 375 = .ok (.ireturn, 1) := by decide +kernel
theorem dL_law_376 : decode cL_law 376 = .ok (.aload_n 1, 1) := by decide +kernel
theorem dL_law_377 : decode cL_law 377 = .ok (.aload_n 0, 1) := by decide +kernel
theorem dL_law_378 : decode cL_law 378 = .ok (.iload_n 3, 1) := by decide +kernel
theorem dL_law_379 : decode cL_law 379 = .ok (.iconst 1, 1) := by decide +kernel
theorem dL_law_380 : decode cL_law 380 = .ok (.iadd, 1) := by decide +kernel
theorem dL_law_381 : decode cL_law 381 = .ok (.iaload, 1) := by decide +kernel
theorem dL_law_382 : decode cL_law 382 = .ok (.aload_n 0, 1) := by decide +kernel
theorem dL_law_383 : decode cL_law 383 = .ok (.iload_n 3, 1) := by decide +kernel
theorem dL_law_384 : decode cL_law 384 = .ok (.iconst 2, 1) := by decide +kernel
theorem dL_law_385 : decode cL_law 385 = .ok (.iadd, 1) := by decide +kernel
theorem dL_law_386 : decode cL_law 386 = .ok (.iaload, 1) := by decide +kernel
theorem dL_law_387 : decode cL_law 387 = .ok (.i2l, 1) := by decide +kernel
theorem dL_law_388 : decode cL_law 388 = .ok (.bipush 32, 2) := by decide +kernel
theorem dL_law_390 : decode cL_law 390 = .ok (.lshl, 1) := by decide +kernel
theorem dL_law_391 : decode cL_law 391 = .ok (.aload_n 0, 1) := by decide +kernel
theorem dL_law_392 : decode cL_law 392 = .ok (.iload_n 3, 1) := by decide +kernel
theorem dL_law_393 : decode cL_law 393 = .ok (.iconst 3, 1) := by decide +kernel
theorem dL_law_394 : decode cL_law 394 = .ok (.iadd, 1) := by decide +kernel
theorem dL_law_395 : decode cL_law 395 = .ok (.iaload, 1) := by decide +kernel
theorem dL_law_396 : decode cL_law 396 = .ok (.i2l, 1) := by decide +kernel
theorem dL_law_397 : decode cL_law 397 = .ok (.ldc2_w 32, 3) := by decide +kernel
theorem dL_law_400 : decode cL_law 400 = .ok (.land, 1) := by decide +kernel
theorem dL_law_401 : decode cL_law 401 = .ok (.lor, 1) := by decide +kernel
theorem dL_law_402 : decode cL_law 402 = .ok (.invokevirtual 34, 3) := by decide +kernel
theorem dL_law_405 : decode cL_law 405 = .ok (.aload_n 2, 1) := by decide +kernel
theorem dL_law_406 : decode cL_law 406 = .ok (.aload_n 0, 1) := by decide +kernel
theorem dL_law_407 : decode cL_law 407 = .ok (.iload_n 3, 1) := by decide +kernel
theorem dL_law_408 : decode cL_law 408 = .ok (.iconst 1, 1) := by decide +kernel
theorem dL_law_409 : decode cL_law 409 = .ok (.iadd, 1) := by decide +kernel
theorem dL_law_410 : decode cL_law 410 = .ok (.iaload, 1) := by decide +kernel
theorem dL_law_411 : decode cL_law 411 = .ok (.aload_n 0, 1) := by decide +kernel
theorem dL_law_412 : decode cL_law 412 = .ok (.iload_n 3, 1) := by decide +kernel
theorem dL_law_413 : decode cL_law 413 = .ok (.iconst 2, 1) := by decide +kernel
theorem dL_law_414 : decode cL_law 414 = .ok (.iadd, 1) := by decide +kernel
theorem dL_law_415 : decode cL_law 415 = .ok (.iaload, 1) := by decide +kernel
theorem dL_law_416 : decode cL_law 416 = .ok (.i2l, 1) := by decide +kernel
theorem dL_law_417 : decode cL_law 417 = .ok (.bipush 32, 2) := by decide +kernel
theorem dL_law_419 : decode cL_law 419 = .ok (.lshl, 1) := by decide +kernel
theorem dL_law_420 : decode cL_law 420 = .ok (.aload_n 0, 1) := by decide +kernel
theorem dL_law_421 : decode cL_law 421 = .ok (.iload_n 3, 1) := by decide +kernel
theorem dL_law_422 : decode cL_law 422 = .ok (.iconst 3, 1) := by decide +kernel
theorem dL_law_423 : decode cL_law 423 = .ok (.iadd, 1) := by decide +kernel
theorem dL_law_424 : decode cL_law 424 = .ok (.iaload, 1) := by decide +kernel
theorem dL_law_425 : decode cL_law 425 = .ok (.i2l, 1) := by decide +kernel
theorem dL_law_426 : decode cL_law 426 = .ok (.ldc2_w 32, 3) := by decide +kernel
theorem dL_law_429 : decode cL_law 429 = .ok (.land, 1) := by decide +kernel
theorem dL_law_430 : decode cL_law 430 = .ok (.lor, 1) := by decide +kernel
theorem dL_law_431 : decode cL_law 431 = .ok (.invokevirtual 38, 3) := by decide +kernel
theorem dL_law_434 : decode cL_law 434 = .ok (.if_icmp .eq 675, 3) := by decide +kernel
theorem dL_law_437 : decode cL_law 437 = .ok (.iconst 0, 1) := by decide +kernel
theorem dL_law_438 : decode cL_law 438 = .ok (.ireturn, 1) := by decide +kernel
theorem dL_law_439 : decode cL_law 439 = .ok (.aload_n 1, 1) := by decide +kernel
theorem dL_law_440 : decode cL_law 440 = .ok (.aload_n 0, 1) := by decide +kernel
theorem dL_law_441 : decode cL_law 441 = .ok (.iload_n 3, 1) := by decide +kernel
theorem dL_law_442 : decode cL_law 442 = .ok (.iconst 1, 1) := by decide +kernel
theorem dL_law_443 : decode cL_law 443 = .ok (.iadd, 1) := by decide +kernel
theorem dL_law_444 : decode cL_law 444 = .ok (.iaload, 1) := by decide +kernel
theorem dL_law_445 : decode cL_law 445 = .ok (.invokevirtual 39, 3) := by decide +kernel
theorem dL_law_448 : decode cL_law 448 = .ok (.aload_n 2, 1) := by decide +kernel
theorem dL_law_449 : decode cL_law 449 = .ok (.aload_n 0, 1) := by decide +kernel
theorem dL_law_450 : decode cL_law 450 = .ok (.iload_n 3, 1) := by decide +kernel
theorem dL_law_451 : decode cL_law 451 = .ok (.iconst 1, 1) := by decide +kernel
theorem dL_law_452 : decode cL_law 452 = .ok (.iadd, 1) := by decide +kernel
theorem dL_law_453 : decode cL_law 453 = .ok (.iaload, 1) := by decide +kernel
theorem dL_law_454 : decode cL_law 454 = .ok (.invokevirtual 43, 3) := by decide +kernel
theorem dL_law_457 : decode cL_law 457 = .ok (.if_icmp .eq 652, 3) := by decide +kernel
theorem dL_law_460 : decode cL_law 460 = .ok (.iconst 0, 1) := by decide +kernel
theorem dL_law_461 : decode cL_law 461 = .ok (.ireturn, 1) := by decide +kernel
theorem dL_law_462 : decode cL_law 462 = .ok (.aload_n 1, 1) := by decide +kernel
theorem dL_law_463 : decode cL_law 463 = .ok (.aload_n 0, 1) := by decide +kernel
theorem dL_law_464 : decode cL_law 464 = .ok (.iload_n 3, 1) := by decide +kernel
theorem dL_law_465 : decode cL_law 465 = .ok (.iconst 1, 1) := by decide +kernel
theorem dL_law_466 : decode cL_law 466 = .ok (.iadd, 1) := by decide +kernel
theorem dL_law_467 : decode cL_law 467 = .ok (.iaload, 1) := by decide +kernel
theorem dL_law_468 : decode cL_law 468 = .ok (.aload_n 0, 1) := by decide +kernel
theorem dL_law_469 : decode cL_law 469 = .ok (.iload_n 3, 1) := by decide +kernel
theorem dL_law_470 : decode cL_law 470 = .ok (.iconst 2, 1) := by decide +kernel
theorem dL_law_471 : decode cL_law 471 = .ok (.iadd, 1) := by decide +kernel
theorem dL_law_472 : decode cL_law 472 = .ok (.iaload, 1) := by decide +kernel
theorem dL_law_473 : decode cL_law 473 = .ok (.invokevirtual 44, 3) := by decide +kernel
theorem dL_law_476 : decode cL_law 476 = .ok (.aload_n 2, 1) := by decide +kernel
theorem dL_law_477 : decode cL_law 477 = .ok (.aload_n 0, 1) := by decide +kernel
theorem dL_law_478 : decode cL_law 478 = .ok (.iload_n 3, 1) := by decide +kernel
theorem dL_law_479 : decode cL_law 479 = .ok (.iconst 1, 1) := by decide +kernel
theorem dL_law_480 : decode cL_law 480 = .ok (.iadd, 1) := by decide +kernel
theorem dL_law_481 : decode cL_law 481 = .ok (.iaload, 1) := by decide +kernel
theorem dL_law_482 : decode cL_law 482 = .ok (.aload_n 0, 1) := by decide +kernel
theorem dL_law_483 : decode cL_law 483 = .ok (.iload_n 3, 1) := by decide +kernel
theorem dL_law_484 : decode cL_law 484 = .ok (.iconst 2, 1) := by decide +kernel
theorem dL_law_485 : decode cL_law 485 = .ok (.iadd, 1) := by decide +kernel
theorem dL_law_486 : decode cL_law 486 = .ok (.iaload, 1) := by decide +kernel
theorem dL_law_487 : decode cL_law 487 = .ok (.invokevirtual 48, 3) := by decide +kernel
theorem dL_law_490 : decode cL_law 490 = .ok (.if_icmp .eq 619, 3) := by decide +kernel
theorem dL_law_493 : decode cL_law 493 = .ok (.iconst 0, 1) := by decide +kernel
theorem dL_law_494 : decode cL_law 494 = .ok (.ireturn, 1) := by decide +kernel
theorem dL_law_495 : decode cL_law 495 = .ok (.aload_n 1, 1) := by decide +kernel
theorem dL_law_496 : decode cL_law 496 = .ok (.aload_n 0, 1) := by decide +kernel
theorem dL_law_497 : decode cL_law 497 = .ok (.iload_n 3, 1) := by decide +kernel
theorem dL_law_498 : decode cL_law 498 = .ok (.iconst 1, 1) := by decide +kernel
theorem dL_law_499 : decode cL_law 499 = .ok (.iadd, 1) := by decide +kernel
theorem dL_law_500 : decode cL_law 500 = .ok (.iaload, 1) := by decide +kernel
theorem dL_law_501 : decode cL_law 501 = .ok (.invokevirtual 49, 3) := by decide +kernel
theorem dL_law_504 : decode cL_law 504 = .ok (.aload_n 2, 1) := by decide +kernel
theorem dL_law_505 : decode cL_law 505 = .ok (.aload_n 0, 1) := by decide +kernel
theorem dL_law_506 : decode cL_law 506 = .ok (.iload_n 3, 1) := by decide +kernel
theorem dL_law_507 : decode cL_law 507 = .ok (.iconst 1, 1) := by decide +kernel
theorem dL_law_508 : decode cL_law 508 = .ok (.iadd, 1) := by decide +kernel
theorem dL_law_509 : decode cL_law 509 = .ok (.iaload, 1) := by decide +kernel
theorem dL_law_510 : decode cL_law 510 = .ok (.invokevirtual 53, 3) := by decide +kernel
theorem dL_law_513 : decode cL_law 513 = .ok (.lcmp, 1) := by decide +kernel
theorem dL_law_514 : decode cL_law 514 = .ok (.ifCond .eq 595, 3) := by decide +kernel
theorem dL_law_517 : decode cL_law 517 = .ok (.iconst 0, 1) := by decide +kernel
theorem dL_law_518 : decode cL_law 518 = .ok (.ireturn, 1) := by decide +kernel
theorem dL_law_519 : decode cL_law 519 = .ok (.aload_n 1, 1) := by decide +kernel
theorem dL_law_520 : decode cL_law 520 = .ok (.aload_n 0, 1) := by decide +kernel
theorem dL_law_521 : decode cL_law 521 = .ok (.iload_n 3, 1) := by decide +kernel
theorem dL_law_522 : decode cL_law 522 = .ok (.iconst 1, 1) := by decide +kernel
theorem dL_law_523 : decode cL_law 523 = .ok (.iadd, 1) := by decide +kernel
theorem dL_law_524 : decode cL_law 524 = .ok (.iaload, 1) := by decide +kernel
theorem dL_law_525 : decode cL_law 525 = .ok (.aload_n 0, 1) := by decide +kernel
theorem dL_law_526 : decode cL_law 526 = .ok (.iload_n 3, 1) := by decide +kernel
theorem dL_law_527 : decode cL_law 527 = .ok (.iconst 2, 1) := by decide +kernel
theorem dL_law_528 : decode cL_law 528 = .ok (.iadd, 1) := by decide +kernel
theorem dL_law_529 : decode cL_law 529 = .ok (.iaload, 1) := by decide +kernel
theorem dL_law_530 : decode cL_law 530 = .ok (.invokevirtual 54, 3) := by decide +kernel
theorem dL_law_533 : decode cL_law 533 = .ok (.aload_n 2, 1) := by decide +kernel
theorem dL_law_534 : decode cL_law 534 = .ok (.aload_n 0, 1) := by decide +kernel
theorem dL_law_535 : decode cL_law 535 = .ok (.iload_n 3, 1) := by decide +kernel
theorem dL_law_536 : decode cL_law 536 = .ok (.iconst 1, 1) := by decide +kernel
theorem dL_law_537 : decode cL_law 537 = .ok (.iadd, 1) := by decide +kernel
theorem dL_law_538 : decode cL_law 538 = .ok (.iaload, 1) := by decide +kernel
theorem dL_law_539 : decode cL_law 539 = .ok (.aload_n 0, 1) := by decide +kernel
theorem dL_law_540 : decode cL_law 540 = .ok (.iload_n 3, 1) := by decide +kernel
theorem dL_law_541 : decode cL_law 541 = .ok (.iconst 2, 1) := by decide +kernel
theorem dL_law_542 : decode cL_law 542 = .ok (.iadd, 1) := by decide +kernel
theorem dL_law_543 : decode cL_law 543 = .ok (.iaload, 1) := by decide +kernel
theorem dL_law_544 : decode cL_law 544 = .ok (.invokevirtual 57, 3) := by decide +kernel
theorem dL_law_547 : decode cL_law 547 = .ok (.if_icmp .eq 562, 3) := by decide +kernel
theorem dL_law_550 : decode cL_law 550 = .ok (.iconst 0, 1) := by decide +kernel
theorem dL_law_551 : decode cL_law 551 = .ok (.ireturn, 1) := by decide +kernel
theorem dL_law_552 : decode cL_law 552 = .ok (.aload_n 1, 1) := by decide +kernel
theorem dL_law_553 : decode cL_law 553 = .ok (.aload_n 0, 1) := by decide +kernel
theorem dL_law_554 : decode cL_law 554 = .ok (.iload_n 3, 1) := by decide +kernel
theorem dL_law_555 : decode cL_law 555 = .ok (.iconst 1, 1) := by decide +kernel
theorem dL_law_556 : decode cL_law 556 = .ok (.iadd, 1) := by decide +kernel
theorem dL_law_557 : decode cL_law 557 = .ok (.iaload, 1) := by decide +kernel
theorem dL_law_558 : decode cL_law 558 = .ok (.invokevirtual 58, 3) := by decide +kernel
theorem dL_law_561 : decode cL_law 561 = .ok (.aload_n 2, 1) := by decide +kernel
theorem dL_law_562 : decode cL_law 562 = .ok (.aload_n 0, 1) := by decide +kernel
theorem dL_law_563 : decode cL_law 563 = .ok (.iload_n 3, 1) := by decide +kernel
theorem dL_law_564 : decode cL_law 564 = .ok (.iconst 1, 1) := by decide +kernel
theorem dL_law_565 : decode cL_law 565 = .ok (.iadd, 1) := by decide +kernel
theorem dL_law_566 : decode cL_law 566 = .ok (.iaload, 1) := by decide +kernel
theorem dL_law_567 : decode cL_law 567 = .ok (.invokevirtual 61, 3) := by decide +kernel
theorem dL_law_570 : decode cL_law 570 = .ok (.lcmp, 1) := by decide +kernel
theorem dL_law_571 : decode cL_law 571 = .ok (.ifCond .eq 538, 3) := by decide +kernel
theorem dL_law_574 : decode cL_law 574 = .ok (.iconst 0, 1) := by decide +kernel
theorem dL_law_575 : decode cL_law 575 = .ok (.ireturn, 1) := by decide +kernel
theorem dL_law_576 : decode cL_law 576 = .ok (.aload_n 1, 1) := by decide +kernel
theorem dL_law_577 : decode cL_law 577 = .ok (.aload_n 0, 1) := by decide +kernel
theorem dL_law_578 : decode cL_law 578 = .ok (.iload_n 3, 1) := by decide +kernel
theorem dL_law_579 : decode cL_law 579 = .ok (.iconst 1, 1) := by decide +kernel
theorem dL_law_580 : decode cL_law 580 = .ok (.iadd, 1) := by decide +kernel
theorem dL_law_581 : decode cL_law 581 = .ok (.iaload, 1) := by decide +kernel
theorem dL_law_582 : decode cL_law 582 = .ok (.invokevirtual 62, 3) := by decide +kernel
theorem dL_law_585 : decode cL_law 585 = .ok (.aload_n 2, 1) := by decide +kernel
theorem dL_law_586 : decode cL_law 586 = .ok (.aload_n 0, 1) := by decide +kernel
theorem dL_law_587 : decode cL_law 587 = .ok (.iload_n 3, 1) := by decide +kernel
theorem dL_law_588 : decode cL_law 588 = .ok (.iconst 1, 1) := by decide +kernel
theorem dL_law_589 : decode cL_law 589 = .ok (.iadd, 1) := by decide +kernel
theorem dL_law_590 : decode cL_law 590 = .ok (.iaload, 1) := by decide +kernel
theorem dL_law_591 : decode cL_law 591 = .ok (.invokevirtual 65, 3) := by decide +kernel
theorem dL_law_594 : decode cL_law 594 = .ok (.lcmp, 1) := by decide +kernel
theorem dL_law_595 : decode cL_law 595 = .ok (.ifCond .eq 514, 3) := by decide +kernel
theorem dL_law_598 : decode cL_law 598 = .ok (.iconst 0, 1) := by decide +kernel
theorem dL_law_599 : decode cL_law 599 = .ok (.ireturn, 1) := by decide +kernel
theorem dL_law_600 : decode cL_law 600 = .ok (.aload_n 1, 1) := by decide +kernel
theorem dL_law_601 : decode cL_law 601 = .ok (.aload_n 0, 1) := by decide +kernel
theorem dL_law_602 : decode cL_law 602 = .ok (.iload_n 3, 1) := by decide +kernel
theorem dL_law_603 : decode cL_law 603 = .ok (.iconst 1, 1) := by decide +kernel
theorem dL_law_604 : decode cL_law 604 = .ok (.iadd, 1) := by decide +kernel
theorem dL_law_605 : decode cL_law 605 = .ok (.iaload, 1) := by decide +kernel
theorem dL_law_606 : decode cL_law 606 = .ok (.invokevirtual 66, 3) := by decide +kernel
theorem dL_law_609 : decode cL_law 609 = .ok (.aload_n 2, 1) := by decide +kernel
theorem dL_law_610 : decode cL_law 610 = .ok (.aload_n 0, 1) := by decide +kernel
theorem dL_law_611 : decode cL_law 611 = .ok (.iload_n 3, 1) := by decide +kernel
theorem dL_law_612 : decode cL_law 612 = .ok (.iconst 1, 1) := by decide +kernel
theorem dL_law_613 : decode cL_law 613 = .ok (.iadd, 1) := by decide +kernel
theorem dL_law_614 : decode cL_law 614 = .ok (.iaload, 1) := by decide +kernel
theorem dL_law_615 : decode cL_law 615 = .ok (.invokevirtual 69, 3) := by decide +kernel
theorem dL_law_618 : decode cL_law 618 = .ok (.if_icmp .eq 491, 3) := by decide +kernel
theorem dL_law_621 : decode cL_law 621 = .ok (.iconst 0, 1) := by decide +kernel
theorem dL_law_622 : decode cL_law 622 = .ok (.ireturn, 1) := by decide +kernel
theorem dL_law_623 : decode cL_law 623 = .ok (.aload_n 1, 1) := by decide +kernel
theorem dL_law_624 : decode cL_law 624 = .ok (.invokevirtual 70, 3) := by decide +kernel
theorem dL_law_627 : decode cL_law 627 = .ok (.aload_n 2, 1) := by decide +kernel
theorem dL_law_628 : decode cL_law 628 = .ok (.invokevirtual 74, 3) := by decide +kernel
theorem dL_law_631 : decode cL_law 631 = .ok (.if_icmp .eq 478, 3) := by decide +kernel
theorem dL_law_634 : decode cL_law 634 = .ok (.iconst 0, 1) := by decide +kernel
theorem dL_law_635 : decode cL_law 635 = .ok (.ireturn, 1) := by decide +kernel
theorem dL_law_636 : decode cL_law 636 = .ok (.aload_n 1, 1) := by decide +kernel
theorem dL_law_637 : decode cL_law 637 = .ok (.aload_n 0, 1) := by decide +kernel
theorem dL_law_638 : decode cL_law 638 = .ok (.iload_n 3, 1) := by decide +kernel
theorem dL_law_639 : decode cL_law 639 = .ok (.iconst 1, 1) := by decide +kernel
theorem dL_law_640 : decode cL_law 640 = .ok (.iadd, 1) := by decide +kernel
theorem dL_law_641 : decode cL_law 641 = .ok (.iaload, 1) := by decide +kernel
theorem dL_law_642 : decode cL_law 642 = .ok (.aload_n 0, 1) := by decide +kernel
theorem dL_law_643 : decode cL_law 643 = .ok (.iload_n 3, 1) := by decide +kernel
theorem dL_law_644 : decode cL_law 644 = .ok (.iconst 2, 1) := by decide +kernel
theorem dL_law_645 : decode cL_law 645 = .ok (.iadd, 1) := by decide +kernel
theorem dL_law_646 : decode cL_law 646 = .ok (.iaload, 1) := by decide +kernel
theorem dL_law_647 : decode cL_law 647 = .ok (.i2l, 1) := by decide +kernel
theorem dL_law_648 : decode cL_law 648 = .ok (.bipush 32, 2) := by decide +kernel
theorem dL_law_650 : decode cL_law 650 = .ok (.lshl, 1) := by decide +kernel
theorem dL_law_651 : decode cL_law 651 = .ok (.aload_n 0, 1) := by decide +kernel
theorem dL_law_652 : decode cL_law 652 = .ok (.iload_n 3, 1) := by decide +kernel
theorem dL_law_653 : decode cL_law 653 = .ok (.iconst 3, 1) := by decide +kernel
theorem dL_law_654 : decode cL_law 654 = .ok (.iadd, 1) := by decide +kernel
theorem dL_law_655 : decode cL_law 655 = .ok (.iaload, 1) := by decide +kernel
theorem dL_law_656 : decode cL_law 656 = .ok (.i2l, 1) := by decide +kernel
theorem dL_law_657 : decode cL_law 657 = .ok (.ldc2_w 32, 3) := by decide +kernel
theorem dL_law_660 : decode cL_law 660 = .ok (.land, 1) := by decide +kernel
theorem dL_law_661 : decode cL_law 661 = .ok (.lor, 1) := by decide +kernel
theorem dL_law_662 : decode cL_law 662 = .ok (.invokevirtual 75, 3) := by decide +kernel
theorem dL_law_665 : decode cL_law 665 = .ok (.aload_n 2, 1) := by decide +kernel
theorem dL_law_666 : decode cL_law 666 = .ok (.aload_n 0, 1) := by decide +kernel
theorem dL_law_667 : decode cL_law 667 = .ok (.iload_n 3, 1) := by decide +kernel
theorem dL_law_668 : decode cL_law 668 = .ok (.iconst 1, 1) := by decide +kernel
theorem dL_law_669 : decode cL_law 669 = .ok (.iadd, 1) := by decide +kernel
theorem dL_law_670 : decode cL_law 670 = .ok (.iaload, 1) := by decide +kernel
theorem dL_law_671 : decode cL_law 671 = .ok (.aload_n 0, 1) := by decide +kernel
theorem dL_law_672 : decode cL_law 672 = .ok (.iload_n 3, 1) := by decide +kernel
theorem dL_law_673 : decode cL_law 673 = .ok (.iconst 2, 1) := by decide +kernel
theorem dL_law_674 : decode cL_law 674 = .ok (.iadd, 1) := by decide +kernel
theorem dL_law_675 : decode cL_law 675 = .ok (.iaload, 1) := by decide +kernel
theorem dL_law_676 : decode cL_law 676 = .ok (.i2l, 1) := by decide +kernel
theorem dL_law_677 : decode cL_law 677 = .ok (.bipush 32, 2) := by decide +kernel
theorem dL_law_679 : decode cL_law 679 = .ok (.lshl, 1) := by decide +kernel
theorem dL_law_680 : decode cL_law 680 = .ok (.aload_n 0, 1) := by decide +kernel
theorem dL_law_681 : decode cL_law 681 = .ok (.iload_n 3, 1) := by decide +kernel
theorem dL_law_682 : decode cL_law 682 = .ok (.iconst 3, 1) := by decide +kernel
theorem dL_law_683 : decode cL_law 683 = .ok (.iadd, 1) := by decide +kernel
theorem dL_law_684 : decode cL_law 684 = .ok (.iaload, 1) := by decide +kernel
theorem dL_law_685 : decode cL_law 685 = .ok (.i2l, 1) := by decide +kernel
theorem dL_law_686 : decode cL_law 686 = .ok (.ldc2_w 32, 3) := by decide +kernel
theorem dL_law_689 : decode cL_law 689 = .ok (.land, 1) := by decide +kernel
theorem dL_law_690 : decode cL_law 690 = .ok (.lor, 1) := by decide +kernel
theorem dL_law_691 : decode cL_law 691 = .ok (.invokevirtual 79, 3) := by decide +kernel
theorem dL_law_694 : decode cL_law 694 = .ok (.if_icmp .eq 415, 3) := by decide +kernel
theorem dL_law_697 : decode cL_law 697 = .ok (.iconst 0, 1) := by decide +kernel
theorem dL_law_698 : decode cL_law 698 = .ok (.ireturn, 1) := by decide +kernel
theorem dL_law_699 : decode cL_law 699 = .ok (.aload_n 1, 1) := by decide +kernel
theorem dL_law_700 : decode cL_law 700 = .ok (.aload_n 0, 1) := by decide +kernel
theorem dL_law_701 : decode cL_law 701 = .ok (.iload_n 3, 1) := by decide +kernel
theorem dL_law_702 : decode cL_law 702 = .ok (.iconst 1, 1) := by decide +kernel
theorem dL_law_703 : decode cL_law 703 = .ok (.iadd, 1) := by decide +kernel
theorem dL_law_704 : decode cL_law 704 = .ok (.iaload, 1) := by decide +kernel
theorem dL_law_705 : decode cL_law 705 = .ok (.aload_n 0, 1) := by decide +kernel
theorem dL_law_706 : decode cL_law 706 = .ok (.iload_n 3, 1) := by decide +kernel
theorem dL_law_707 : decode cL_law 707 = .ok (.iconst 2, 1) := by decide +kernel
theorem dL_law_708 : decode cL_law 708 = .ok (.iadd, 1) := by decide +kernel
theorem dL_law_709 : decode cL_law 709 = .ok (.iaload, 1) := by decide +kernel
theorem dL_law_710 : decode cL_law 710 = .ok (.i2l, 1) := by decide +kernel
theorem dL_law_711 : decode cL_law 711 = .ok (.bipush 32, 2) := by decide +kernel
theorem dL_law_713 : decode cL_law 713 = .ok (.lshl, 1) := by decide +kernel
theorem dL_law_714 : decode cL_law 714 = .ok (.aload_n 0, 1) := by decide +kernel
theorem dL_law_715 : decode cL_law 715 = .ok (.iload_n 3, 1) := by decide +kernel
theorem dL_law_716 : decode cL_law 716 = .ok (.iconst 3, 1) := by decide +kernel
theorem dL_law_717 : decode cL_law 717 = .ok (.iadd, 1) := by decide +kernel
theorem dL_law_718 : decode cL_law 718 = .ok (.iaload, 1) := by decide +kernel
theorem dL_law_719 : decode cL_law 719 = .ok (.i2l, 1) := by decide +kernel
theorem dL_law_720 : decode cL_law 720 = .ok (.ldc2_w 32, 3) := by decide +kernel
theorem dL_law_723 : decode cL_law 723 = .ok (.land, 1) := by decide +kernel
theorem dL_law_724 : decode cL_law 724 = .ok (.lor, 1) := by decide +kernel
theorem dL_law_725 : decode cL_law 725 = .ok (.aload_n 0, 1) := by decide +kernel
theorem dL_law_726 : decode cL_law 726 = .ok (.iload_n 3, 1) := by decide +kernel
theorem dL_law_727 : decode cL_law 727 = .ok (.iconst 4, 1) := by decide +kernel
theorem dL_law_728 : decode cL_law 728 = .ok (.iadd, 1) := by decide +kernel
theorem dL_law_729 : decode cL_law 729 = .ok (.iaload, 1) := by decide +kernel
theorem dL_law_730 : decode cL_law 730 = .ok (.i2l, 1) := by decide +kernel
theorem dL_law_731 : decode cL_law 731 = .ok (.bipush 32, 2) := by decide +kernel
theorem dL_law_733 : decode cL_law 733 = .ok (.lshl, 1) := by decide +kernel
theorem dL_law_734 : decode cL_law 734 = .ok (.aload_n 0, 1) := by decide +kernel
theorem dL_law_735 : decode cL_law 735 = .ok (.iload_n 3, 1) := by decide +kernel
theorem dL_law_736 : decode cL_law 736 = .ok (.iconst 5, 1) := by decide +kernel
theorem dL_law_737 : decode cL_law 737 = .ok (.iadd, 1) := by decide +kernel
theorem dL_law_738 : decode cL_law 738 = .ok (.iaload, 1) := by decide +kernel
theorem dL_law_739 : decode cL_law 739 = .ok (.i2l, 1) := by decide +kernel
theorem dL_law_740 : decode cL_law 740 = .ok (.ldc2_w 32, 3) := by decide +kernel
theorem dL_law_743 : decode cL_law 743 = .ok (.land, 1) := by decide +kernel
theorem dL_law_744 : decode cL_law 744 = .ok (.lor, 1) := by decide +kernel
theorem dL_law_745 : decode cL_law 745 = .ok (.invokevirtual 80, 3) := by decide +kernel
theorem dL_law_748 : decode cL_law 748 = .ok (.aload_n 2, 1) := by decide +kernel
theorem dL_law_749 : decode cL_law 749 = .ok (.aload_n 0, 1) := by decide +kernel
theorem dL_law_750 : decode cL_law 750 = .ok (.iload_n 3, 1) := by decide +kernel
theorem dL_law_751 : decode cL_law 751 = .ok (.iconst 1, 1) := by decide +kernel
theorem dL_law_752 : decode cL_law 752 = .ok (.iadd, 1) := by decide +kernel
theorem dL_law_753 : decode cL_law 753 = .ok (.iaload, 1) := by decide +kernel
theorem dL_law_754 : decode cL_law 754 = .ok (.aload_n 0, 1) := by decide +kernel
theorem dL_law_755 : decode cL_law 755 = .ok (.iload_n 3, 1) := by decide +kernel
theorem dL_law_756 : decode cL_law 756 = .ok (.iconst 2, 1) := by decide +kernel
theorem dL_law_757 : decode cL_law 757 = .ok (.iadd, 1) := by decide +kernel
theorem dL_law_758 : decode cL_law 758 = .ok (.iaload, 1) := by decide +kernel
theorem dL_law_759 : decode cL_law 759 = .ok (.i2l, 1) := by decide +kernel
theorem dL_law_760 : decode cL_law 760 = .ok (.bipush 32, 2) := by decide +kernel
theorem dL_law_762 : decode cL_law 762 = .ok (.lshl, 1) := by decide +kernel
theorem dL_law_763 : decode cL_law 763 = .ok (.aload_n 0, 1) := by decide +kernel
theorem dL_law_764 : decode cL_law 764 = .ok (.iload_n 3, 1) := by decide +kernel
theorem dL_law_765 : decode cL_law 765 = .ok (.iconst 3, 1) := by decide +kernel
theorem dL_law_766 : decode cL_law 766 = .ok (.iadd, 1) := by decide +kernel
theorem dL_law_767 : decode cL_law 767 = .ok (.iaload, 1) := by decide +kernel
theorem dL_law_768 : decode cL_law 768 = .ok (.i2l, 1) := by decide +kernel
theorem dL_law_769 : decode cL_law 769 = .ok (.ldc2_w 32, 3) := by decide +kernel
theorem dL_law_772 : decode cL_law 772 = .ok (.land, 1) := by decide +kernel
theorem dL_law_773 : decode cL_law 773 = .ok (.lor, 1) := by decide +kernel
theorem dL_law_774 : decode cL_law 774 = .ok (.aload_n 0, 1) := by decide +kernel
theorem dL_law_775 : decode cL_law 775 = .ok (.iload_n 3, 1) := by decide +kernel
theorem dL_law_776 : decode cL_law 776 = .ok (.iconst 4, 1) := by decide +kernel
theorem dL_law_777 : decode cL_law 777 = .ok (.iadd, 1) := by decide +kernel
theorem dL_law_778 : decode cL_law 778 = .ok (.iaload, 1) := by decide +kernel
theorem dL_law_779 : decode cL_law 779 = .ok (.i2l, 1) := by decide +kernel
theorem dL_law_780 : decode cL_law 780 = .ok (.bipush 32, 2) := by decide +kernel
theorem dL_law_782 : decode cL_law 782 = .ok (.lshl, 1) := by decide +kernel
theorem dL_law_783 : decode cL_law 783 = .ok (.aload_n 0, 1) := by decide +kernel
theorem dL_law_784 : decode cL_law 784 = .ok (.iload_n 3, 1) := by decide +kernel
theorem dL_law_785 : decode cL_law 785 = .ok (.iconst 5, 1) := by decide +kernel
theorem dL_law_786 : decode cL_law 786 = .ok (.iadd, 1) := by decide +kernel
theorem dL_law_787 : decode cL_law 787 = .ok (.iaload, 1) := by decide +kernel
theorem dL_law_788 : decode cL_law 788 = .ok (.i2l, 1) := by decide +kernel
theorem dL_law_789 : decode cL_law 789 = .ok (.ldc2_w 32, 3) := by decide +kernel
theorem dL_law_792 : decode cL_law 792 = .ok (.land, 1) := by decide +kernel
theorem dL_law_793 : decode cL_law 793 = .ok (.lor, 1) := by decide +kernel
theorem dL_law_794 : decode cL_law 794 = .ok (.invokevirtual 84, 3) := by decide +kernel
theorem dL_law_797 : decode cL_law 797 = .ok (.if_icmp .eq 312, 3) := by decide +kernel
theorem dL_law_800 : decode cL_law 800 = .ok (.iconst 0, 1) := by decide +kernel
theorem dL_law_801 : decode cL_law 801 = .ok (.ireturn, 1) := by decide +kernel
theorem dL_law_802 : decode cL_law 802 = .ok (.aload_n 1, 1) := by decide +kernel
theorem dL_law_803 : decode cL_law 803 = .ok (.aload_n 0, 1) := by decide +kernel
theorem dL_law_804 : decode cL_law 804 = .ok (.iload_n 3, 1) := by decide +kernel
theorem dL_law_805 : decode cL_law 805 = .ok (.iconst 1, 1) := by decide +kernel
theorem dL_law_806 : decode cL_law 806 = .ok (.iadd, 1) := by decide +kernel
theorem dL_law_807 : decode cL_law 807 = .ok (.iaload, 1) := by decide +kernel
theorem dL_law_808 : decode cL_law 808 = .ok (.aload_n 0, 1) := by decide +kernel
theorem dL_law_809 : decode cL_law 809 = .ok (.iload_n 3, 1) := by decide +kernel
theorem dL_law_810 : decode cL_law 810 = .ok (.iconst 2, 1) := by decide +kernel
theorem dL_law_811 : decode cL_law 811 = .ok (.iadd, 1) := by decide +kernel
theorem dL_law_812 : decode cL_law 812 = .ok (.iaload, 1) := by decide +kernel
theorem dL_law_813 : decode cL_law 813 = .ok (.invokevirtual 85, 3) := by decide +kernel
theorem dL_law_816 : decode cL_law 816 = .ok (.aload_n 2, 1) := by decide +kernel
theorem dL_law_817 : decode cL_law 817 = .ok (.aload_n 0, 1) := by decide +kernel
theorem dL_law_818 : decode cL_law 818 = .ok (.iload_n 3, 1) := by decide +kernel
theorem dL_law_819 : decode cL_law 819 = .ok (.iconst 1, 1) := by decide +kernel
theorem dL_law_820 : decode cL_law 820 = .ok (.iadd, 1) := by decide +kernel
theorem dL_law_821 : decode cL_law 821 = .ok (.iaload, 1) := by decide +kernel
theorem dL_law_822 : decode cL_law 822 = .ok (.aload_n 0, 1) := by decide +kernel
theorem dL_law_823 : decode cL_law 823 = .ok (.iload_n 3, 1) := by decide +kernel
theorem dL_law_824 : decode cL_law 824 = .ok (.iconst 2, 1) := by decide +kernel
theorem dL_law_825 : decode cL_law 825 = .ok (.iadd, 1) := by decide +kernel
theorem dL_law_826 : decode cL_law 826 = .ok (.iaload, 1) := by decide +kernel
theorem dL_law_827 : decode cL_law 827 = .ok (.invokevirtual 88, 3) := by decide +kernel
theorem dL_law_830 : decode cL_law 830 = .ok (.if_icmp .eq 279, 3) := by decide +kernel
theorem dL_law_833 : decode cL_law 833 = .ok (.iconst 0, 1) := by decide +kernel
theorem dL_law_834 : decode cL_law 834 = .ok (.ireturn, 1) := by decide +kernel
theorem dL_law_835 : decode cL_law 835 = .ok (.aload_n 1, 1) := by decide +kernel
theorem dL_law_836 : decode cL_law 836 = .ok (.aload_n 0, 1) := by decide +kernel
theorem dL_law_837 : decode cL_law 837 = .ok (.iload_n 3, 1) := by decide +kernel
theorem dL_law_838 : decode cL_law 838 = .ok (.iconst 1, 1) := by decide +kernel
theorem dL_law_839 : decode cL_law 839 = .ok (.iadd, 1) := by decide +kernel
theorem dL_law_840 : decode cL_law 840 = .ok (.iaload, 1) := by decide +kernel
theorem dL_law_841 : decode cL_law 841 = .ok (.aload_n 0, 1) := by decide +kernel
theorem dL_law_842 : decode cL_law 842 = .ok (.iload_n 3, 1) := by decide +kernel
theorem dL_law_843 : decode cL_law 843 = .ok (.iconst 2, 1) := by decide +kernel
theorem dL_law_844 : decode cL_law 844 = .ok (.iadd, 1) := by decide +kernel
theorem dL_law_845 : decode cL_law 845 = .ok (.iaload, 1) := by decide +kernel
theorem dL_law_846 : decode cL_law 846 = .ok (.invokevirtual 89, 3) := by decide +kernel
theorem dL_law_849 : decode cL_law 849 = .ok (.aload_n 2, 1) := by decide +kernel
theorem dL_law_850 : decode cL_law 850 = .ok (.aload_n 0, 1) := by decide +kernel
theorem dL_law_851 : decode cL_law 851 = .ok (.iload_n 3, 1) := by decide +kernel
theorem dL_law_852 : decode cL_law 852 = .ok (.iconst 1, 1) := by decide +kernel
theorem dL_law_853 : decode cL_law 853 = .ok (.iadd, 1) := by decide +kernel
theorem dL_law_854 : decode cL_law 854 = .ok (.iaload, 1) := by decide +kernel
theorem dL_law_855 : decode cL_law 855 = .ok (.aload_n 0, 1) := by decide +kernel
theorem dL_law_856 : decode cL_law 856 = .ok (.iload_n 3, 1) := by decide +kernel
theorem dL_law_857 : decode cL_law 857 = .ok (.iconst 2, 1) := by decide +kernel
theorem dL_law_858 : decode cL_law 858 = .ok (.iadd, 1) := by decide +kernel
theorem dL_law_859 : decode cL_law 859 = .ok (.iaload, 1) := by decide +kernel
theorem dL_law_860 : decode cL_law 860 = .ok (.invokevirtual 92, 3) := by decide +kernel
theorem dL_law_863 : decode cL_law 863 = .ok (.if_icmp .eq 246, 3) := by decide +kernel
theorem dL_law_866 : decode cL_law 866 = .ok (.iconst 0, 1) := by decide +kernel
theorem dL_law_867 : decode cL_law 867 = .ok (.ireturn, 1) := by decide +kernel
theorem dL_law_868 : decode cL_law 868 = .ok (.aload_n 1, 1) := by decide +kernel
theorem dL_law_869 : decode cL_law 869 = .ok (.aload_n 0, 1) := by decide +kernel
theorem dL_law_870 : decode cL_law 870 = .ok (.iload_n 3, 1) := by decide +kernel
theorem dL_law_871 : decode cL_law 871 = .ok (.iconst 1, 1) := by decide +kernel
theorem dL_law_872 : decode cL_law 872 = .ok (.iadd, 1) := by decide +kernel
theorem dL_law_873 : decode cL_law 873 = .ok (.iaload, 1) := by decide +kernel
theorem dL_law_874 : decode cL_law 874 = .ok (.invokevirtual 93, 3) := by decide +kernel
theorem dL_law_877 : decode cL_law 877 = .ok (.aload_n 2, 1) := by decide +kernel
theorem dL_law_878 : decode cL_law 878 = .ok (.aload_n 0, 1) := by decide +kernel
theorem dL_law_879 : decode cL_law 879 = .ok (.iload_n 3, 1) := by decide +kernel
theorem dL_law_880 : decode cL_law 880 = .ok (.iconst 1, 1) := by decide +kernel
theorem dL_law_881 : decode cL_law 881 = .ok (.iadd, 1) := by decide +kernel
theorem dL_law_882 : decode cL_law 882 = .ok (.iaload, 1) := by decide +kernel
theorem dL_law_883 : decode cL_law 883 = .ok (.invokevirtual 96, 3) := by decide +kernel
theorem dL_law_886 : decode cL_law 886 = .ok (.if_icmp .eq 223, 3) := by decide +kernel
theorem dL_law_889 : decode cL_law 889 = .ok (.iconst 0, 1) := by decide +kernel
theorem dL_law_890 : decode cL_law 890 = .ok (.ireturn, 1) := by decide +kernel
theorem dL_law_891 : decode cL_law 891 = .ok (.aload_n 1, 1) := by decide +kernel
theorem dL_law_892 : decode cL_law 892 = .ok (.aload_n 0, 1) := by decide +kernel
theorem dL_law_893 : decode cL_law 893 = .ok (.iload_n 3, 1) := by decide +kernel
theorem dL_law_894 : decode cL_law 894 = .ok (.iconst 1, 1) := by decide +kernel
theorem dL_law_895 : decode cL_law 895 = .ok (.iadd, 1) := by decide +kernel
theorem dL_law_896 : decode cL_law 896 = .ok (.iaload, 1) := by decide +kernel
theorem dL_law_897 : decode cL_law 897 = .ok (.invokevirtual 97, 3) := by decide +kernel
theorem dL_law_900 : decode cL_law 900 = .ok (.aload_n 2, 1) := by decide +kernel
theorem dL_law_901 : decode cL_law 901 = .ok (.aload_n 0, 1) := by decide +kernel
theorem dL_law_902 : decode cL_law 902 = .ok (.iload_n 3, 1) := by decide +kernel
theorem dL_law_903 : decode cL_law 903 = .ok (.iconst 1, 1) := by decide +kernel
theorem dL_law_904 : decode cL_law 904 = .ok (.iadd, 1) := by decide +kernel
theorem dL_law_905 : decode cL_law 905 = .ok (.iaload, 1) := by decide +kernel
theorem dL_law_906 : decode cL_law 906 = .ok (.invokevirtual 100, 3) := by decide +kernel
theorem dL_law_909 : decode cL_law 909 = .ok (.if_icmp .eq 200, 3) := by decide +kernel
theorem dL_law_912 : decode cL_law 912 = .ok (.iconst 0, 1) := by decide +kernel
theorem dL_law_913 : decode cL_law 913 = .ok (.ireturn, 1) := by decide +kernel
theorem dL_law_914 : decode cL_law 914 = .ok (.aload_n 1, 1) := by decide +kernel
theorem dL_law_915 : decode cL_law 915 = .ok (.invokevirtual 101, 3) := by decide +kernel
theorem dL_law_918 : decode cL_law 918 = .ok (.aload_n 2, 1) := by decide +kernel
theorem dL_law_919 : decode cL_law 919 = .ok (.invokevirtual 104, 3) := by decide +kernel
theorem dL_law_922 : decode cL_law 922 = .ok (.if_icmp .eq 187, 3) := by decide +kernel
theorem dL_law_925 : decode cL_law 925 = .ok (.iconst 0, 1) := by decide +kernel
theorem dL_law_926 : decode cL_law 926 = .ok (.ireturn, 1) := by decide +kernel
theorem dL_law_927 : decode cL_law 927 = .ok (.aload_n 1, 1) := by decide +kernel
theorem dL_law_928 : decode cL_law 928 = .ok (.invokevirtual 105, 3) := by decide +kernel
theorem dL_law_931 : decode cL_law 931 = .ok (.aload_n 2, 1) := by decide +kernel
theorem dL_law_932 : decode cL_law 932 = .ok (.invokevirtual 109, 3) := by decide +kernel
theorem dL_law_935 : decode cL_law 935 = .ok (.lcmp, 1) := by decide +kernel
theorem dL_law_936 : decode cL_law 936 = .ok (.ifCond .eq 173, 3) := by decide +kernel
theorem dL_law_939 : decode cL_law 939 = .ok (.iconst 0, 1) := by decide +kernel
theorem dL_law_940 : decode cL_law 940 = .ok (.ireturn, 1) := by decide +kernel
theorem dL_law_941 : decode cL_law 941 = .ok (.aload_n 1, 1) := by decide +kernel
theorem dL_law_942 : decode cL_law 942 = .ok (.aload_n 0, 1) := by decide +kernel
theorem dL_law_943 : decode cL_law 943 = .ok (.iload_n 3, 1) := by decide +kernel
theorem dL_law_944 : decode cL_law 944 = .ok (.iconst 1, 1) := by decide +kernel
theorem dL_law_945 : decode cL_law 945 = .ok (.iadd, 1) := by decide +kernel
theorem dL_law_946 : decode cL_law 946 = .ok (.iaload, 1) := by decide +kernel
theorem dL_law_947 : decode cL_law 947 = .ok (.aload_n 0, 1) := by decide +kernel
theorem dL_law_948 : decode cL_law 948 = .ok (.iload_n 3, 1) := by decide +kernel
theorem dL_law_949 : decode cL_law 949 = .ok (.iconst 2, 1) := by decide +kernel
theorem dL_law_950 : decode cL_law 950 = .ok (.iadd, 1) := by decide +kernel
theorem dL_law_951 : decode cL_law 951 = .ok (.iaload, 1) := by decide +kernel
theorem dL_law_952 : decode cL_law 952 = .ok (.invokevirtual 110, 3) := by decide +kernel
theorem dL_law_955 : decode cL_law 955 = .ok (.aload_n 2, 1) := by decide +kernel
theorem dL_law_956 : decode cL_law 956 = .ok (.aload_n 0, 1) := by decide +kernel
theorem dL_law_957 : decode cL_law 957 = .ok (.iload_n 3, 1) := by decide +kernel
theorem dL_law_958 : decode cL_law 958 = .ok (.iconst 1, 1) := by decide +kernel
theorem dL_law_959 : decode cL_law 959 = .ok (.iadd, 1) := by decide +kernel
theorem dL_law_960 : decode cL_law 960 = .ok (.iaload, 1) := by decide +kernel
theorem dL_law_961 : decode cL_law 961 = .ok (.aload_n 0, 1) := by decide +kernel
theorem dL_law_962 : decode cL_law 962 = .ok (.iload_n 3, 1) := by decide +kernel
theorem dL_law_963 : decode cL_law 963 = .ok (.iconst 2, 1) := by decide +kernel
theorem dL_law_964 : decode cL_law 964 = .ok (.iadd, 1) := by decide +kernel
theorem dL_law_965 : decode cL_law 965 = .ok (.iaload, 1) := by decide +kernel
theorem dL_law_966 : decode cL_law 966 = .ok (.invokevirtual 113, 3) := by decide +kernel
theorem dL_law_969 : decode cL_law 969 = .ok (.if_icmp .eq 140, 3) := by decide +kernel
theorem dL_law_972 : decode cL_law 972 = .ok (.iconst 0, 1) := by decide +kernel
theorem dL_law_973 : decode cL_law 973 = .ok (.ireturn, 1) := by decide +kernel
theorem dL_law_974 : decode cL_law 974 = .ok (.aload_n 1, 1) := by decide +kernel
theorem dL_law_975 : decode cL_law 975 = .ok (.aload_n 0, 1) := by decide +kernel
theorem dL_law_976 : decode cL_law 976 = .ok (.iload_n 3, 1) := by decide +kernel
theorem dL_law_977 : decode cL_law 977 = .ok (.iconst 1, 1) := by decide +kernel
theorem dL_law_978 : decode cL_law 978 = .ok (.iadd, 1) := by decide +kernel
theorem dL_law_979 : decode cL_law 979 = .ok (.iaload, 1) := by decide +kernel
theorem dL_law_980 : decode cL_law 980 = .ok (.aload_n 0, 1) := by decide +kernel
theorem dL_law_981 : decode cL_law 981 = .ok (.iload_n 3, 1) := by decide +kernel
theorem dL_law_982 : decode cL_law 982 = .ok (.iconst 2, 1) := by decide +kernel
theorem dL_law_983 : decode cL_law 983 = .ok (.iadd, 1) := by decide +kernel
theorem dL_law_984 : decode cL_law 984 = .ok (.iaload, 1) := by decide +kernel
theorem dL_law_985 : decode cL_law 985 = .ok (.aload_n 0, 1) := by decide +kernel
theorem dL_law_986 : decode cL_law 986 = .ok (.iload_n 3, 1) := by decide +kernel
theorem dL_law_987 : decode cL_law 987 = .ok (.iconst 3, 1) := by decide +kernel
theorem dL_law_988 : decode cL_law 988 = .ok (.iadd, 1) := by decide +kernel
theorem dL_law_989 : decode cL_law 989 = .ok (.iaload, 1) := by decide +kernel
theorem dL_law_990 : decode cL_law 990 = .ok (.invokevirtual 114, 3) := by decide +kernel
theorem dL_law_993 : decode cL_law 993 = .ok (.aload_n 2, 1) := by decide +kernel
theorem dL_law_994 : decode cL_law 994 = .ok (.aload_n 0, 1) := by decide +kernel
theorem dL_law_995 : decode cL_law 995 = .ok (.iload_n 3, 1) := by decide +kernel
theorem dL_law_996 : decode cL_law 996 = .ok (.iconst 1, 1) := by decide +kernel
theorem dL_law_997 : decode cL_law 997 = .ok (.iadd, 1) := by decide +kernel
theorem dL_law_998 : decode cL_law 998 = .ok (.iaload, 1) := by decide +kernel
theorem dL_law_999 : decode cL_law 999 = .ok (.aload_n 0, 1) := by decide +kernel
theorem dL_law_1000 : decode cL_law 1000 = .ok (.iload_n 3, 1) := by decide +kernel
theorem dL_law_1001 : decode cL_law 1001 = .ok (.iconst 2, 1) := by decide +kernel
theorem dL_law_1002 : decode cL_law 1002 = .ok (.iadd, 1) := by decide +kernel
theorem dL_law_1003 : decode cL_law 1003 = .ok (.iaload, 1) := by decide +kernel
theorem dL_law_1004 : decode cL_law 1004 = .ok (.aload_n 0, 1) := by decide +kernel
theorem dL_law_1005 : decode cL_law 1005 = .ok (.iload_n 3, 1) := by decide +kernel
theorem dL_law_1006 : decode cL_law 1006 = .ok (.iconst 3, 1) := by decide +kernel
theorem dL_law_1007 : decode cL_law 1007 = .ok (.iadd, 1) := by decide +kernel
theorem dL_law_1008 : decode cL_law 1008 = .ok (.iaload, 1) := by decide +kernel
theorem dL_law_1009 : decode cL_law 1009 = .ok (.invokevirtual 118, 3) := by decide +kernel
theorem dL_law_1012 : decode cL_law 1012 = .ok (.if_icmp .eq 97, 3) := by decide +kernel
theorem dL_law_1015 : decode cL_law 1015 = .ok (.iconst 0, 1) := by decide +kernel
theorem dL_law_1016 : decode cL_law 1016 = .ok (.ireturn, 1) := by decide +kernel
theorem dL_law_1017 : decode cL_law 1017 = .ok (.aload_n 1, 1) := by decide +kernel
theorem dL_law_1018 : decode cL_law 1018 = .ok (.aload_n 0, 1) := by decide +kernel
theorem dL_law_1019 : decode cL_law 1019 = .ok (.iload_n 3, 1) := by decide +kernel
theorem dL_law_1020 : decode cL_law 1020 = .ok (.iconst 1, 1) := by decide +kernel
theorem dL_law_1021 : decode cL_law 1021 = .ok (.iadd, 1) := by decide +kernel
theorem dL_law_1022 : decode cL_law 1022 = .ok (.iaload, 1) := by decide +kernel
theorem dL_law_1023 : decode cL_law 1023 = .ok (.aload_n 0, 1) := by decide +kernel
theorem dL_law_1024 : decode cL_law 1024 = .ok (.iload_n 3, 1) := by decide +kernel
theorem dL_law_1025 : decode cL_law 1025 = .ok (.iconst 2, 1) := by decide +kernel
theorem dL_law_1026 : decode cL_law 1026 = .ok (.iadd, 1) := by decide +kernel
theorem dL_law_1027 : decode cL_law 1027 = .ok (.iaload, 1) := by decide +kernel
theorem dL_law_1028 : decode cL_law 1028 = .ok (.invokevirtual 119, 3) := by decide +kernel
theorem dL_law_1031 : decode cL_law 1031 = .ok (.aload_n 2, 1) := by decide +kernel
theorem dL_law_1032 : decode cL_law 1032 = .ok (.aload_n 0, 1) := by decide +kernel
theorem dL_law_1033 : decode cL_law 1033 = .ok (.iload_n 3, 1) := by decide +kernel
theorem dL_law_1034 : decode cL_law 1034 = .ok (.iconst 1, 1) := by decide +kernel
theorem dL_law_1035 : decode cL_law 1035 = .ok (.iadd, 1) := by decide +kernel
theorem dL_law_1036 : decode cL_law 1036 = .ok (.iaload, 1) := by decide +kernel
theorem dL_law_1037 : decode cL_law 1037 = .ok (.aload_n 0, 1) := by decide +kernel
theorem dL_law_1038 : decode cL_law 1038 = .ok (.iload_n 3, 1) := by decide +kernel
theorem dL_law_1039 : decode cL_law 1039 = .ok (.iconst 2, 1) := by decide +kernel
theorem dL_law_1040 : decode cL_law 1040 = .ok (.iadd, 1) := by decide +kernel
theorem dL_law_1041 : decode cL_law 1041 = .ok (.iaload, 1) := by decide +kernel
theorem dL_law_1042 : decode cL_law 1042 = .ok (.invokevirtual 122, 3) := by decide +kernel
theorem dL_law_1045 : decode cL_law 1045 = .ok (.if_icmp .eq 64, 3) := by decide +kernel
theorem dL_law_1048 : decode cL_law 1048 = .ok (.iconst 0, 1) := by decide +kernel
theorem dL_law_1049 : decode cL_law 1049 = .ok (.ireturn, 1) := by decide +kernel
theorem dL_law_1050 : decode cL_law 1050 = .ok (.aload_n 1, 1) := by decide +kernel
theorem dL_law_1051 : decode cL_law 1051 = .ok (.invokevirtual 123, 3) := by decide +kernel
theorem dL_law_1054 : decode cL_law 1054 = .ok (.aload_n 2, 1) := by decide +kernel
theorem dL_law_1055 : decode cL_law 1055 = .ok (.invokevirtual 126, 3) := by decide +kernel
theorem dL_law_1058 : decode cL_law 1058 = .ok (.if_icmp .eq 51, 3) := by decide +kernel
theorem dL_law_1061 : decode cL_law 1061 = .ok (.iconst 0, 1) := by decide +kernel
theorem dL_law_1062 : decode cL_law 1062 = .ok (.ireturn, 1) := by decide +kernel
theorem dL_law_1063 : decode cL_law 1063 = .ok (.aload_n 1, 1) := by decide +kernel
theorem dL_law_1064 : decode cL_law 1064 = .ok (.aload_n 0, 1) := by decide +kernel
theorem dL_law_1065 : decode cL_law 1065 = .ok (.iload_n 3, 1) := by decide +kernel
theorem dL_law_1066 : decode cL_law 1066 = .ok (.iconst 1, 1) := by decide +kernel
theorem dL_law_1067 : decode cL_law 1067 = .ok (.iadd, 1) := by decide +kernel
theorem dL_law_1068 : decode cL_law 1068 = .ok (.iaload, 1) := by decide +kernel
theorem dL_law_1069 : decode cL_law 1069 = .ok (.invokevirtual 127, 3) := by decide +kernel
theorem dL_law_1072 : decode cL_law 1072 = .ok (.aload_n 2, 1) := by decide +kernel
theorem dL_law_1073 : decode cL_law 1073 = .ok (.aload_n 0, 1) := by decide +kernel
theorem dL_law_1074 : decode cL_law 1074 = .ok (.iload_n 3, 1) := by decide +kernel
theorem dL_law_1075 : decode cL_law 1075 = .ok (.iconst 1, 1) := by decide +kernel
theorem dL_law_1076 : decode cL_law 1076 = .ok (.iadd, 1) := by decide +kernel
theorem dL_law_1077 : decode cL_law 1077 = .ok (.iaload, 1) := by decide +kernel
theorem dL_law_1078 : decode cL_law 1078 = .ok (.invokevirtual 130, 3) := by decide +kernel
theorem dL_law_1081 : decode cL_law 1081 = .ok (.if_icmp .eq 28, 3) := by decide +kernel
theorem dL_law_1084 : decode cL_law 1084 = .ok (.iconst 0, 1) := by decide +kernel
theorem dL_law_1085 : decode cL_law 1085 = .ok (.ireturn, 1) := by decide +kernel
theorem dL_law_1086 : decode cL_law 1086 = .ok (.aload_n 1, 1) := by decide +kernel
theorem dL_law_1087 : decode cL_law 1087 = .ok (.aload_n 0, 1) := by decide +kernel
theorem dL_law_1088 : decode cL_law 1088 = .ok (.iload_n 3, 1) := by decide +kernel
theorem dL_law_1089 : decode cL_law 1089 = .ok (.iconst 1, 1) := by decide +kernel
theorem dL_law_1090 : decode cL_law 1090 = .ok (.iadd, 1) := by decide +kernel
theorem dL_law_1091 : decode cL_law 1091 = .ok (.iaload, 1) := by decide +kernel
theorem dL_law_1092 : decode cL_law 1092 = .ok (.invokevirtual 131, 3) := by decide +kernel
theorem dL_law_1095 : decode cL_law 1095 = .ok (.aload_n 2, 1) := by decide +kernel
theorem dL_law_1096 : decode cL_law 1096 = .ok (.aload_n 0, 1) := by decide +kernel
theorem dL_law_1097 : decode cL_law 1097 = .ok (.iload_n 3, 1) := by decide +kernel
theorem dL_law_1098 : decode cL_law 1098 = .ok (.iconst 1, 1) := by decide +kernel
theorem dL_law_1099 : decode cL_law 1099 = .ok (.iadd, 1) := by decide +kernel
theorem dL_law_1100 : decode cL_law 1100 = .ok (.iaload, 1) := by decide +kernel
theorem dL_law_1101 : decode cL_law 1101 = .ok (.invokevirtual 134, 3) := by decide +kernel
theorem dL_law_1104 : decode cL_law 1104 = .ok (.if_icmp .eq 5, 3) := by decide +kernel
theorem dL_law_1107 : decode cL_law 1107 = .ok (.iconst 0, 1) := by decide +kernel
theorem dL_law_1108 : decode cL_law 1108 = .ok (.ireturn, 1) := by decide +kernel
theorem dL_law_1109 : decode cL_law 1109 = .ok (.iinc 3 10, 3) := by decide +kernel
theorem dL_law_1112 : decode cL_law 1112 = .ok (.goto (-1094), 3) := by decide +kernel
theorem dL_law_1115 : decode cL_law 1115 = .ok (.iconst 1, 1) := by decide +kernel
theorem dL_law_1116 : decode cL_law 1116 = .ok (.ireturn, 1) := by decide +kernel
abbrev vwCl : List vw_C := [(RX0, TX0, 4), (RX1, TX1, 3), (RX2, TX2, 2), (RX3, TX3, 6), (RX4, TX4, 9), (RX5, TX5, 6), (RX6, TX6, 4), (RX7, TX7, 3), (RX8, TX8, 6), (RX9, TX9, 5), (RX10, TX10, 6), (RX11, TX11, 35)]
