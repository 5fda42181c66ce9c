theorem dX11_back_9 : decode cX11_back 9 = .ok (.if_icmp .gt 44, 3) := by decide +kernel
theorem dX11_back_12 : decode cX11_back 12 = .ok (.iload_n 1, 1) := by decide +kernel
theorem dX11_back_13 : decode cX11_back 13 = .ok (.aload_n 0, 1) := by decide +kernel
theorem dX11_back_14 : decode cX11_back 14 = .ok (.getfield 81, 3) := by decide +kernel
theorem dX11_back_17 : decode cX11_back 17 = .ok (.if_icmp .gt 36, 3) := by decide +kernel
theorem dX11_back_20 : decode cX11_back 20 = .ok (.aload_n 0, 1) := by decide +kernel
theorem dX11_back_21 : decode cX11_back 21 = .ok (.getfield 81, 3) := by decide +kernel
theorem dX11_back_24 : decode cX11_back 24 = .ok (.sipush 256, 3) := by decide +kernel
theorem dX11_back_27 : decode cX11_back 27 = .ok (.if_icmp .gt 26, 3) := by decide +kernel
theorem dX11_back_30 : decode cX11_back 30 = .ok (.aload_n 0, 1) := by decide +kernel
theorem dX11_back_31 : decode cX11_back 31 = .ok (.getfield 103, 3) := by decide +kernel
theorem dX11_back_34 : decode cX11_back 34 = .ok (.ifCond .ne 19, 3) := by decide +kernel
theorem dX11_back_37 : decode cX11_back 37 = .ok (.aload_n 0, 1) := by decide +kernel
theorem dX11_back_38 : decode cX11_back 38 = .ok (.getfield 96, 3) := by decide +kernel
theorem dX11_back_41 : decode cX11_back 41 = .ok (.ifCond .ne 12, 3) := by decide +kernel
theorem dX11_back_44 : decode cX11_back 44 = .ok (.iload_n 2, 1) := by decide +kernel
theorem dX11_back_45 : decode cX11_back 45 = .ok (.ifCond .lt 8, 3) := by decide +kernel
theorem dX11_back_48 : decode cX11_back 48 = .ok (.iload_n 2, 1) := by decide +kernel
theorem dX11_back_49 : decode cX11_back 49 = .ok (.iconst 1, 1) := by decide +kernel
theorem dX11_back_50 : decode cX11_back 50 = .ok (.if_icmp .le 6, 3) := by decide +kernel
theorem dX11_back_53 : decode cX11_back 53 = .ok (.ldc 151, 2) := by decide +kernel
theorem dX11_back_55 : decode cX11_back 55 = .ok (.ireturn, 1) := by decide +kernel
theorem dX11_back_56 : decode cX11_back 56 = .ok (.ldc2_w 171, 3) := by decide +kernel
theorem dX11_back_59 : decode cX11_back 59 = .ok (.lstore_n 3, 1) := by decide +kernel
theorem dX11_back_60 : decode cX11_back 60 = .ok (.ldc2_w 173, 3) := by decide +kernel
theorem dX11_back_63 : decode cX11_back 63 = .ok (.lstore 5, 2) := by decide +kernel
theorem dX11_back_65 : decode cX11_back 65 = .ok (.lconst 0, 1) := by decide +kernel
theorem dX11_back_66 : decode cX11_back 66 = .ok (.lstore 7, 2) := by decide +kernel
theorem dX11_back_68 : decode cX11_back 68 = .ok (.iconst 0, 1) := by decide +kernel
theorem dX11_back_69 : decode cX11_back 69 = .ok (.istore 9, 2) := by decide +kernel
theorem dX11_back_71 : decode cX11_back 71 = .ok (.iload 9, 2) := by decide +kernel
theorem dX11_back_73 : decode cX11_back 73 = .ok (.iload_n 1, 1) := by decide +kernel
theorem dX11_back_74 : decode cX11_back 74 = .ok (.if_icmp .ge 155, 3) := by decide +kernel
theorem dX11_back_77 : decode cX11_back 77 = .ok (.aload_n 0, 1) := by decide +kernel
theorem dX11_back_78 : decode cX11_back 78 = .ok (.getfield 54, 3) := by decide +kernel
theorem dX11_back_81 : decode cX11_back 81 = .ok (.iload 9, 2) := by decide +kernel
theorem dX11_back_83 : decode cX11_back 83 = .ok (.iaload, 1) := by decide +kernel
theorem dX11_back_84 : decode cX11_back 84 = .ok (.istore 10, 2) := by decide +kernel
theorem dX11_back_86 : decode cX11_back 86 = .ok (.iconst 0, 1) := by decide +kernel
theorem dX11_back_87 : decode cX11_back 87 = .ok (.istore 11, 2) := by decide +kernel
theorem dX11_back_89 : decode cX11_back 89 = .ok (.aload_n 0, 1) := by decide +kernel
theorem dX11_back_90 : decode cX11_back 90 = .ok (.getfield 19, 3) := by decide +kernel
theorem dX11_back_93 : decode cX11_back 93 = .ok (.iload 11, 2) := by decide +kernel
theorem dX11_back_95 : decode cX11_back 95 = .ok (.iaload, 1) := by decide +kernel
theorem dX11_back_96 : decode cX11_back 96 = .ok (.iload 10, 2) := by decide +kernel
theorem dX11_back_98 : decode cX11_back 98 = .ok (.if_icmp .eq 9, 3) := by decide +kernel
theorem dX11_back_101 : decode cX11_back 101 = .ok (.iinc 11 1, 3) := by decide +kernel
theorem dX11_back_104 : decode cX11_back 104 = .ok (.goto (-15), 3) := by decide +kernel
theorem dX11_back_107 : decode cX11_back 107 = .ok (.iload 11, 2) := by decide +kernel
theorem dX11_back_109 : decode cX11_back 109 = .ok (.ifCond .le 41, 3) := by decide +kernel
theorem dX11_back_112 : decode cX11_back 112 = .ok (.iload 10, 2) := by decide +kernel
theorem dX11_back_114 : decode cX11_back 114 = .ok (.i2l, 1) := by decide +kernel
theorem dX11_back_115 : decode cX11_back 115 = .ok (.aload_n 0, 1) := by decide +kernel
theorem dX11_back_116 : decode cX11_back 116 = .ok (.getfield 7, 3) := by decide +kernel
theorem dX11_back_119 : decode cX11_back 119 = .ok (.i2l, 1) := by decide +kernel
theorem dX11_back_120 : decode cX11_back 120 = .ok (.lmul, 1) := by decide +kernel
theorem dX11_back_121 : decode cX11_back 121 = .ok (.lload 7, 2) := by decide +kernel
theorem dX11_back_123 : decode cX11_back 123 = .ok (.ladd, 1) := by decide +kernel
theorem dX11_back_124 : decode cX11_back 124 = .ok (.lneg, 1) := by decide +kernel
theorem dX11_back_125 : decode cX11_back 125 = .ok (.iload 9, 2) := by decide +kernel
theorem dX11_back_127 : decode cX11_back 127 = .ok (.i2l, 1) := by decide +kernel
theorem dX11_back_128 : decode cX11_back 128 = .ok (.lconst 1, 1) := by decide +kernel
theorem dX11_back_129 : decode cX11_back 129 = .ok (.ladd, 1) := by decide +kernel
theorem dX11_back_130 : decode cX11_back 130 = .ok (.invokestatic 175, 3) := by decide +kernel
theorem dX11_back_133 : decode cX11_back 133 = .ok (.lneg, 1) := by decide +kernel
theorem dX11_back_134 : decode cX11_back 134 = .ok (.lstore 12, 2) := by decide +kernel
theorem dX11_back_136 : decode cX11_back 136 = .ok (.lload 12, 2) := by decide +kernel
theorem dX11_back_138 : decode cX11_back 138 = .ok (.lload_n 3, 1) := by decide +kernel
theorem dX11_back_139 : decode cX11_back 139 = .ok (.lcmp, 1) := by decide +kernel
theorem dX11_back_140 : decode cX11_back 140 = .ok (.ifCond .le 8, 3) := by decide +kernel
theorem dX11_back_143 : decode cX11_back 143 = .ok (.lload 12, 2) := by decide +kernel
theorem dX11_back_145 : decode cX11_back 145 = .ok (.goto 4, 3) := by decide +kernel
theorem dX11_back_148 : decode cX11_back 148 = .ok (.lload_n 3, 1) := by decide +kernel
theorem dX11_back_149 : decode cX11_back 149 = .ok (.lstore_n 3, 1) := by decide +kernel
theorem dX11_back_150 : decode cX11_back 150 = .ok (.iload 11, 2) := by decide +kernel
theorem dX11_back_152 : decode cX11_back 152 = .ok (.aload_n 0, 1) := by decide +kernel
theorem dX11_back_153 : decode cX11_back 153 = .ok (.getfield 13, 3) := by decide +kernel
theorem dX11_back_156 : decode cX11_back 156 = .ok (.iconst 1, 1) := by decide +kernel
theorem dX11_back_157 : decode cX11_back 157 = .ok (.isub, 1) := by decide +kernel
theorem dX11_back_158 : decode cX11_back 158 = .ok (.if_icmp .ge 51, 3) := by decide +kernel
theorem dX11_back_161 : decode cX11_back 161 = .ok (.aload_n 0, 1) := by decide +kernel
theorem dX11_back_162 : decode cX11_back 162 = .ok (.getfield 19, 3) := by decide +kernel
theorem dX11_back_165 : decode cX11_back 165 = .ok (.iload 11, 2) := by decide +kernel
theorem dX11_back_167 : decode cX11_back 167 = .ok (.iconst 1, 1) := by decide +kernel
theorem dX11_back_168 : decode cX11_back 168 = .ok (.iadd, 1) := by decide +kernel
theorem dX11_back_169 : decode cX11_back 169 = .ok (.iaload, 1) := by decide +kernel
theorem dX11_back_170 : decode cX11_back 170 = .ok (.i2l, 1) := by decide +kernel
theorem dX11_back_171 : decode cX11_back 171 = .ok (.aload_n 0, 1) := by decide +kernel
theorem dX11_back_172 : decode cX11_back 172 = .ok (.getfield 7, 3) := by decide +kernel
theorem dX11_back_175 : decode cX11_back 175 = .ok (.i2l, 1) := by decide +kernel
theorem dX11_back_176 : decode cX11_back 176 = .ok (.lmul, 1) := by decide +kernel
theorem dX11_back_177 : decode cX11_back 177 = .ok (.lload 7, 2) := by decide +kernel
theorem dX11_back_179 : decode cX11_back 179 = .ok (.ladd, 1) := by decide +kernel
theorem dX11_back_180 : decode cX11_back 180 = .ok (.lconst 1, 1) := by decide +kernel
theorem dX11_back_181 : decode cX11_back 181 = .ok (.lsub, 1) := by decide +kernel
theorem dX11_back_182 : decode cX11_back 182 = .ok (.iload 9, 2) := by decide +kernel
theorem dX11_back_184 : decode cX11_back 184 = .ok (.i2l, 1) := by decide +kernel
theorem dX11_back_185 : decode cX11_back 185 = .ok (.lconst 1, 1) := by decide +kernel
theorem dX11_back_186 : decode cX11_back 186 = .ok (.ladd, 1) := by decide +kernel
theorem dX11_back_187 : decode cX11_back 187 = .ok (.invokestatic 175, 3) := by decide +kernel
theorem dX11_back_190 : decode cX11_back 190 = .ok (.lstore 12, 2) := by decide +kernel
theorem dX11_back_192 : decode cX11_back 192 = .ok (.lload 12, 2) := by decide +kernel
theorem dX11_back_194 : decode cX11_back 194 = .ok (.lload 5, 2) := by decide +kernel
theorem dX11_back_196 : decode cX11_back 196 = .ok (.lcmp, 1) := by decide +kernel
theorem dX11_back_197 : decode cX11_back 197 = .ok (.ifCond .ge 8, 3) := by decide +kernel
theorem dX11_back_200 : decode cX11_back 200 = .ok (.lload 12, 2) := by decide +kernel
theorem dX11_back_202 : decode cX11_back 202 = .ok (.goto 5, 3) := by decide +kernel
theorem dX11_back_205 : decode cX11_back 205 = .ok (.lload 5, 2) := by decide +kernel
theorem dX11_back_207 : decode cX11_back 207 = .ok (.lstore 5, 2) := by decide +kernel
theorem dX11_back_209 : decode cX11_back 209 = .ok (.lload 7, 2) := by decide +kernel
theorem dX11_back_211 : decode cX11_back 211 = .ok (.iload 10, 2) := by decide +kernel
theorem dX11_back_213 : decode cX11_back 213 = .ok (.i2l, 1) := by decide +kernel
theorem dX11_back_214 : decode cX11_back 214 = .ok (.aload_n 0, 1) := by decide +kernel
theorem dX11_back_215 : decode cX11_back 215 = .ok (.getfield 7, 3) := by decide +kernel
theorem dX11_back_218 : decode cX11_back 218 = .ok (.i2l, 1) := by decide +kernel
theorem dX11_back_219 : decode cX11_back 219 = .ok (.lmul, 1) := by decide +kernel
theorem dX11_back_220 : decode cX11_back 220 = .ok (.ladd, 1) := by decide +kernel
theorem dX11_back_221 : decode cX11_back 221 = .ok (.lstore 7, 2) := by decide +kernel
theorem dX11_back_223 : decode cX11_back 223 = .ok (.iinc 9 1, 3) := by decide +kernel
theorem dX11_back_226 : decode cX11_back 226 = .ok (.goto (-155), 3) := by decide +kernel
theorem dX11_back_229 : decode cX11_back 229 = .ok (.lload_n 3, 1) := by decide +kernel
theorem dX11_back_230 : decode cX11_back 230 = .ok (.lload 5, 2) := by decide +kernel
theorem dX11_back_232 : decode cX11_back 232 = .ok (.lcmp, 1) := by decide +kernel
theorem dX11_back_233 : decode cX11_back 233 = .ok (.ifCond .le 6, 3) := by decide +kernel
theorem dX11_back_236 : decode cX11_back 236 = .ok (.ldc 151, 2) := by decide +kernel
theorem dX11_back_238 : decode cX11_back 238 = .ok (.ireturn, 1) := by decide +kernel
theorem dX11_back_239 : decode cX11_back 239 = .ok (.iload_n 2, 1) := by decide +kernel
theorem dX11_back_240 : decode cX11_back 240 = .ok (.ifCond .ne 7, 3) := by decide +kernel
theorem dX11_back_243 : decode cX11_back 243 = .ok (.lload_n 3, 1) := by decide +kernel
theorem dX11_back_244 : decode cX11_back 244 = .ok (.goto 5, 3) := by decide +kernel
theorem dX11_back_247 : decode cX11_back 247 = .ok (.lload 5, 2) := by decide +kernel
theorem dX11_back_249 : decode cX11_back 249 = .ok (.l2i, 1) := by decide +kernel
theorem dX11_back_250 : decode cX11_back 250 = .ok (.ireturn, 1) := by decide +kernel
set_option maxRecDepth 20000 in
theorem ggX11_range_X11_isWish : GoodIn wsX11_range wsX11_isWish := goodIn_r _ [6, 7, 8] (by decide +kernel) (by decide +kernel)
set_option maxRecDepth 20000 in
theorem gX11_range_X11_isWish : GoodIn wsX11_range (va_wsS RX11 145 yX11_isWish wsX11_isWish) := goodIn_app (goodIn_of _ (by decide +kernel)) ggX11_range_X11_isWish
set_option maxRecDepth 20000 in
theorem ggX11_range_X11_stepFor : GoodIn wsX11_range wsX11_stepFor := goodIn_r _ [12, 13, 14, 1, 15, 16, 17, 18, 19, 20, 21, 22, 23, 24, 25, 26, 27, 28, 29, 30, 31, 32, 33, 34, 35, 36, 37, 38, 39, 40, 41, 42, 43, 44, 45, 46, 47, 48, 49] (by decide +kernel) (by decide +kernel)
set_option maxRecDepth 20000 in
theorem gX11_range_X11_stepFor : GoodIn wsX11_range (wsV RX11 129 RX11 yX11_stepFor wsX11_stepFor) := goodIn_app (goodIn_of _ (by decide +kernel)) ggX11_range_X11_stepFor
theorem dX11_range_0 : decode cX11_range 0 = .ok (.iload_n 1, 1) := by decide +kernel
theorem dX11_range_1 : decode cX11_range 1 = .ok (.iconst 1, 1) := by decide +kernel
theorem dX11_range_2 : decode cX11_range 2 = .ok (.if_icmp .lt 37, 3) := by decide +kernel
theorem dX11_range_5 : decode cX11_range 5 = .ok (.iload_n 1, 1) := by decide +kernel
theorem dX11_range_6 : decode cX11_range 6 = .ok (.bipush 64, 2) := by decide +kernel
theorem dX11_range_8 : decode cX11_range 8 = .ok (.if_icmp .gt 31, 3) := by decide +kernel
theorem dX11_range_11 : decode cX11_range 11 = .ok (.iload_n 2, 1) := by decide +kernel
theorem dX11_range_12 : decode cX11_range 12 = .ok (.invokestatic 145, 3) := by decide +kernel
theorem dX11_range_15 : decode cX11_range 15 = .ok (.ifCond .eq 24, 3) := by decide +kernel
theorem dX11_range_18 : decode cX11_range 18 = .ok (.iload_n 3, 1) := by decide +kernel
theorem dX11_range_19 : decode cX11_range 19 = .ok (.invokestatic 145, 3) := by decide +kernel
theorem dX11_range_22 : decode cX11_range 22 = .ok (.ifCond .eq 17, 3) := by decide +kernel
theorem dX11_range_25 : decode cX11_range 25 = .ok (.iload_n 2, 1) := by decide +kernel
theorem dX11_range_26 : decode cX11_range 26 = .ok (.iload_n 3, 1) := by decide +kernel
theorem dX11_range_27 : decode cX11_range 27 = .ok (.if_icmp .gt 12, 3) := by decide +kernel
theorem dX11_range_30 : decode cX11_range 30 = .ok (.iload_n 3, 1) := by decide +kernel
theorem dX11_range_31 : decode cX11_range 31 = .ok (.iload_n 2, 1) := by decide +kernel
theorem dX11_range_32 : decode cX11_range 32 = .ok (.isub, 1) := by decide +kernel
theorem dX11_range_33 : decode cX11_range 33 = .ok (.sipush 2000, 3) := by decide +kernel
theorem dX11_range_36 : decode cX11_range 36 = .ok (.if_icmp .le 5, 3) := by decide +kernel
theorem dX11_range_39 : decode cX11_range 39 = .ok (.iconst (-1), 1) := by decide +kernel
theorem dX11_range_40 : decode cX11_range 40 = .ok (.ireturn, 1) := by decide +kernel
theorem dX11_range_41 : decode cX11_range 41 = .ok (.iconst 0, 1) := by decide +kernel
theorem dX11_range_42 : decode cX11_range 42 = .ok (.istore 4, 2) := by decide +kernel
theorem dX11_range_44 : decode cX11_range 44 = .ok (.iload_n 2, 1) := by decide +kernel
theorem dX11_range_45 : decode cX11_range 45 = .ok (.istore 5, 2) := by decide +kernel
theorem dX11_range_47 : decode cX11_range 47 = .ok (.iload 5, 2) := by decide +kernel
theorem dX11_range_49 : decode cX11_range 49 = .ok (.iload_n 3, 1) := by decide +kernel
theorem dX11_range_50 : decode cX11_range 50 = .ok (.if_icmp .gt 118, 3) := by decide +kernel
theorem dX11_range_53 : decode cX11_range 53 = .ok (.lconst 0, 1) := by decide +kernel
theorem dX11_range_54 : decode cX11_range 54 = .ok (.lstore 6, 2) := by decide +kernel
theorem dX11_range_56 : decode cX11_range 56 = .ok (.iload 5, 2) := by decide +kernel
theorem dX11_range_58 : decode cX11_range 58 = .ok (.iload_n 2, 1) := by decide +kernel
theorem dX11_range_59 : decode cX11_range 59 = .ok (.if_icmp .le 7, 3) := by decide +kernel
theorem dX11_range_62 : decode cX11_range 62 = .ok (.iconst 1, 1) := by decide +kernel
theorem dX11_range_63 : decode cX11_range 63 = .ok (.goto 4, 3) := by decide +kernel
theorem dX11_range_66 : decode cX11_range 66 = .ok (.iconst 0, 1) := by decide +kernel
theorem dX11_range_67 : decode cX11_range 67 = .ok (.istore 8, 2) := by decide +kernel
theorem dX11_range_69 : decode cX11_range 69 = .ok (.iconst 0, 1) := by decide +kernel
theorem dX11_range_70 : decode cX11_range 70 = .ok (.istore 9, 2) := by decide +kernel
theorem dX11_range_72 : decode cX11_range 72 = .ok (.iload 9, 2) := by decide +kernel
theorem dX11_range_74 : decode cX11_range 74 = .ok (.iload_n 1, 1) := by decide +kernel
theorem dX11_range_75 : decode cX11_range 75 = .ok (.if_icmp .ge 72, 3) := by decide +kernel
theorem dX11_range_78 : decode cX11_range 78 = .ok (.aload_n 0, 1) := by decide +kernel
theorem dX11_range_79 : decode cX11_range 79 = .ok (.lload 6, 2) := by decide +kernel
theorem dX11_range_81 : decode cX11_range 81 = .ok (.iload 5, 2) := by decide +kernel
theorem dX11_range_83 : decode cX11_range 83 = .ok (.i2l, 1) := by decide +kernel
theorem dX11_range_84 : decode cX11_range 84 = .ok (.ladd, 1) := by decide +kernel
theorem dX11_range_85 : decode cX11_range 85 = .ok (.invokevirtual 129, 3) := by decide +kernel
theorem dX11_range_88 : decode cX11_range 88 = .ok (.istore 10, 2) := by decide +kernel
theorem dX11_range_90 : decode cX11_range 90 = .ok (.lload 6, 2) := by decide +kernel
theorem dX11_range_92 : decode cX11_range 92 = .ok (.iload 5, 2) := by decide +kernel
theorem dX11_range_94 : decode cX11_range 94 = .ok (.i2l, 1) := by decide +kernel
theorem dX11_range_95 : decode cX11_range 95 = .ok (.iload 10, 2) := by decide +kernel
theorem dX11_range_97 : decode cX11_range 97 = .ok (.i2l, 1) := by decide +kernel
theorem dX11_range_98 : decode cX11_range 98 = .ok (.aload_n 0, 1) := by decide +kernel
theorem dX11_range_99 : decode cX11_range 99 = .ok (.getfield 7, 3) := by decide +kernel
theorem dX11_range_102 : decode cX11_range 102 = .ok (.i2l, 1) := by decide +kernel
theorem dX11_range_103 : decode cX11_range 103 = .ok (.lmul, 1) := by decide +kernel
theorem dX11_range_104 : decode cX11_range 104 = .ok (.lsub, 1) := by decide +kernel
theorem dX11_range_105 : decode cX11_range 105 = .ok (.ladd, 1) := by decide +kernel
theorem dX11_range_106 : decode cX11_range 106 = .ok (.lstore 6, 2) := by decide +kernel
theorem dX11_range_108 : decode cX11_range 108 = .ok (.iload 8, 2) := by decide +kernel
theorem dX11_range_110 : decode cX11_range 110 = .ok (.ifCond .eq 19, 3) := by decide +kernel
theorem dX11_range_113 : decode cX11_range 113 = .ok (.aload_n 0, 1) := by decide +kernel
theorem dX11_range_114 : decode cX11_range 114 = .ok (.getfield 78, 3) := by decide +kernel
theorem dX11_range_117 : decode cX11_range 117 = .ok (.iload 9, 2) := by decide +kernel
theorem dX11_range_119 : decode cX11_range 119 = .ok (.iaload, 1) := by decide +kernel
theorem dX11_range_120 : decode cX11_range 120 = .ok (.iload 10, 2) := by decide +kernel
theorem dX11_range_122 : decode cX11_range 122 = .ok (.if_icmp .ne 7, 3) := by decide +kernel
theorem dX11_range_125 : decode cX11_range 125 = .ok (.iconst 1, 1) := by decide +kernel
theorem dX11_range_126 : decode cX11_range 126 = .ok (.goto 4, 3) := by decide +kernel
theorem dX11_range_129 : decode cX11_range 129 = .ok (.iconst 0, 1) := by decide +kernel
theorem dX11_range_130 : decode cX11_range 130 = .ok (.istore 8, 2) := by decide +kernel
theorem dX11_range_132 : decode cX11_range 132 = .ok (.aload_n 0, 1) := by decide +kernel
theorem dX11_range_133 : decode cX11_range 133 = .ok (.getfield 78, 3) := by decide +kernel
theorem dX11_range_136 : decode cX11_range 136 = .ok (.iload 9, 2) := by decide +kernel
theorem dX11_range_138 : decode cX11_range 138 = .ok (.iload 10, 2) := by decide +kernel
theorem dX11_range_140 : decode cX11_range 140 = .ok (.iastore, 1) := by decide +kernel
theorem dX11_range_141 : decode cX11_range 141 = .ok (.iinc 9 1, 3) := by decide +kernel
theorem dX11_range_144 : decode cX11_range 144 = .ok (.goto (-72), 3) := by decide +kernel
theorem dX11_range_147 : decode cX11_range 147 = .ok (.iload 4, 2) := by decide +kernel
theorem dX11_range_149 : decode cX11_range 149 = .ok (.iload 8, 2) := by decide +kernel
theorem dX11_range_151 : decode cX11_range 151 = .ok (.ifCond .eq 7, 3) := by decide +kernel
theorem dX11_range_154 : decode cX11_range 154 = .ok (.iconst 0, 1) := by decide +kernel
theorem dX11_range_155 : decode cX11_range 155 = .ok (.goto 4, 3) := by decide +kernel
theorem dX11_range_158 : decode cX11_range 158 = .ok (.iconst 1, 1) := by decide +kernel
theorem dX11_range_159 : decode cX11_range 159 = .ok (.iadd, 1) := by decide +kernel
theorem dX11_range_160 : decode cX11_range 160 = .ok (.istore 4, 2) := by decide +kernel
theorem dX11_range_162 : decode cX11_range 162 = .ok (.iinc 5 1, 3) := by decide +kernel
theorem dX11_range_165 : decode cX11_range 165 = .ok (.goto (-118), 3) := by decide +kernel
theorem dX11_range_168 : decode cX11_range 168 = .ok (.iload 4, 2) := by decide +kernel
theorem dX11_range_170 : decode cX11_range 170 = .ok (.ireturn, 1) := by decide +kernel
theorem dX11_part_0 : decode cX11_part 0 = .ok (.iload_n 1, 1) := by decide +kernel
theorem dX11_part_1 : decode cX11_part 1 = .ok (.ifCond .lt 20, 3) := by decide +kernel
theorem dX11_part_4 : decode cX11_part 4 = .ok (.iload_n 1, 1) := by decide +kernel
theorem dX11_part_5 : decode cX11_part 5 = .ok (.aload_n 0, 1) := by decide +kernel
theorem dX11_part_6 : decode cX11_part 6 = .ok (.getfield 109, 3) := by decide +kernel
theorem dX11_part_9 : decode cX11_part 9 = .ok (.if_icmp .ge 12, 3) := by decide +kernel
theorem dX11_part_12 : decode cX11_part 12 = .ok (.iload_n 2, 1) := by decide +kernel
theorem dX11_part_13 : decode cX11_part 13 = .ok (.ifCond .lt 8, 3) := by decide +kernel
theorem dX11_part_16 : decode cX11_part 16 = .ok (.iload_n 2, 1) := by decide +kernel
theorem dX11_part_17 : decode cX11_part 17 = .ok (.iconst 1, 1) := by decide +kernel
theorem dX11_part_18 : decode cX11_part 18 = .ok (.if_icmp .le 7, 3) := by decide +kernel
theorem dX11_part_21 : decode cX11_part 21 = .ok (.iconst (-1), 1) := by decide +kernel
theorem dX11_part_22 : decode cX11_part 22 = .ok (.goto 22, 3) := by decide +kernel
theorem dX11_part_25 : decode cX11_part 25 = .ok (.iload_n 2, 1) := by decide +kernel
theorem dX11_part_26 : decode cX11_part 26 = .ok (.ifCond .ne 12, 3) := by decide +kernel
theorem dX11_part_29 : decode cX11_part 29 = .ok (.aload_n 0, 1) := by decide +kernel
theorem dX11_part_30 : decode cX11_part 30 = .ok (.getfield 48, 3) := by decide +kernel
theorem dX11_part_33 : decode cX11_part 33 = .ok (.iload_n 1, 1) := by decide +kernel
theorem dX11_part_34 : decode cX11_part 34 = .ok (.iaload, 1) := by decide +kernel
theorem dX11_part_35 : decode cX11_part 35 = .ok (.goto 9, 3) := by decide +kernel
theorem dX11_part_38 : decode cX11_part 38 = .ok (.aload_n 0, 1) := by decide +kernel
theorem dX11_part_39 : decode cX11_part 39 = .ok (.getfield 51, 3) := by decide +kernel
theorem dX11_part_42 : decode cX11_part 42 = .ok (.iload_n 1, 1) := by decide +kernel
theorem dX11_part_43 : decode cX11_part 43 = .ok (.iaload, 1) := by decide +kernel
theorem dX11_part_44 : decode cX11_part 44 = .ok (.ireturn, 1) := by decide +kernel
theorem dX11_spread_0 : decode cX11_spread 0 = .ok (.aload_n 0, 1) := by decide +kernel
theorem dX11_spread_1 : decode cX11_spread 1 = .ok (.getfield 103, 3) := by decide +kernel
theorem dX11_spread_4 : decode cX11_spread 4 = .ok (.iconst 4, 1) := by decide +kernel
theorem dX11_spread_5 : decode cX11_spread 5 = .ok (.if_icmp .eq 5, 3) := by decide +kernel
theorem dX11_spread_8 : decode cX11_spread 8 = .ok (.iconst (-1), 1) := by decide +kernel
theorem dX11_spread_9 : decode cX11_spread 9 = .ok (.ireturn, 1) := by decide +kernel
theorem dX11_spread_10 : decode cX11_spread 10 = .ok (.aload_n 0, 1) := by decide +kernel
theorem dX11_spread_11 : decode cX11_spread 11 = .ok (.getfield 51, 3) := by decide +kernel
theorem dX11_spread_14 : decode cX11_spread 14 = .ok (.iconst 0, 1) := by decide +kernel
theorem dX11_spread_15 : decode cX11_spread 15 = .ok (.iaload, 1) := by decide +kernel
theorem dX11_spread_16 : decode cX11_spread 16 = .ok (.istore_n 1, 1) := by decide +kernel
theorem dX11_spread_17 : decode cX11_spread 17 = .ok (.aload_n 0, 1) := by decide +kernel
theorem dX11_spread_18 : decode cX11_spread 18 = .ok (.getfield 51, 3) := by decide +kernel
theorem dX11_spread_21 : decode cX11_spread 21 = .ok (.iconst 0, 1) := by decide +kernel
theorem dX11_spread_22 : decode cX11_spread 22 = .ok (.iaload, 1) := by decide +kernel
theorem dX11_spread_23 : decode cX11_spread 23 = .ok (.istore_n 2, 1) := by decide +kernel
theorem dX11_spread_24 : decode cX11_spread 24 = .ok (.iconst 1, 1) := by decide +kernel
theorem dX11_spread_25 : decode cX11_spread 25 = .ok (.istore_n 3, 1) := by decide +kernel
theorem dX11_spread_26 : decode cX11_spread 26 = .ok (.iload_n 3, 1) := by decide +kernel
theorem dX11_spread_27 : decode cX11_spread 27 = .ok (.aload_n 0, 1) := by decide +kernel
theorem dX11_spread_28 : decode cX11_spread 28 = .ok (.getfield 109, 3) := by decide +kernel
theorem dX11_spread_31 : decode cX11_spread 31 = .ok (.if_icmp .ge 51, 3) := by decide +kernel
theorem dX11_spread_34 : decode cX11_spread 34 = .ok (.aload_n 0, 1) := by decide +kernel
theorem dX11_spread_35 : decode cX11_spread 35 = .ok (.getfield 51, 3) := by decide +kernel
theorem dX11_spread_38 : decode cX11_spread 38 = .ok (.iload_n 3, 1) := by decide +kernel
theorem dX11_spread_39 : decode cX11_spread 39 = .ok (.iaload, 1) := by decide +kernel
theorem dX11_spread_40 : decode cX11_spread 40 = .ok (.iload_n 1, 1) := by decide +kernel
theorem dX11_spread_41 : decode cX11_spread 41 = .ok (.if_icmp .ge 12, 3) := by decide +kernel
theorem dX11_spread_44 : decode cX11_spread 44 = .ok (.aload_n 0, 1) := by decide +kernel
theorem dX11_spread_45 : decode cX11_spread 45 = .ok (.getfield 51, 3) := by decide +kernel
theorem dX11_spread_48 : decode cX11_spread 48 = .ok (.iload_n 3, 1) := by decide +kernel
theorem dX11_spread_49 : decode cX11_spread 49 = .ok (.iaload, 1) := by decide +kernel
theorem dX11_spread_50 : decode cX11_spread 50 = .ok (.goto 4, 3) := by decide +kernel
theorem dX11_spread_53 : decode cX11_spread 53 = .ok (.iload_n 1, 1) := by decide +kernel
theorem dX11_spread_54 : decode cX11_spread 54 = .ok (.istore_n 1, 1) := by decide +kernel
theorem dX11_spread_55 : decode cX11_spread 55 = .ok (.aload_n 0, 1) := by decide +kernel
theorem dX11_spread_56 : decode cX11_spread 56 = .ok (.getfield 51, 3) := by decide +kernel
theorem dX11_spread_59 : decode cX11_spread 59 = .ok (.iload_n 3, 1) := by decide +kernel
theorem dX11_spread_60 : decode cX11_spread 60 = .ok (.iaload, 1) := by decide +kernel
theorem dX11_spread_61 : decode cX11_spread 61 = .ok (.iload_n 2, 1) := by decide +kernel
theorem dX11_spread_62 : decode cX11_spread 62 = .ok (.if_icmp .le 12, 3) := by decide +kernel
theorem dX11_spread_65 : decode cX11_spread 65 = .ok (.aload_n 0, 1) := by decide +kernel
theorem dX11_spread_66 : decode cX11_spread 66 = .ok (.getfield 51, 3) := by decide +kernel
theorem dX11_spread_69 : decode cX11_spread 69 = .ok (.iload_n 3, 1) := by decide +kernel
theorem dX11_spread_70 : decode cX11_spread 70 = .ok (.iaload, 1) := by decide +kernel
theorem dX11_spread_71 : decode cX11_spread 71 = .ok (.goto 4, 3) := by decide +kernel
theorem dX11_spread_74 : decode cX11_spread 74 = .ok (.iload_n 2, 1) := by decide +kernel
theorem dX11_spread_75 : decode cX11_spread 75 = .ok (.istore_n 2, 1) := by decide +kernel
theorem dX11_spread_76 : decode cX11_spread 76 = .ok (.iinc 3 1, 3) := by decide +kernel
theorem dX11_spread_79 : decode cX11_spread 79 = .ok (.goto (-53), 3) := by decide +kernel
theorem dX11_spread_82 : decode cX11_spread 82 = .ok (.iload_n 2, 1) := by decide +kernel
theorem dX11_spread_83 : decode cX11_spread 83 = .ok (.iload_n 1, 1) := by decide +kernel
theorem dX11_spread_84 : decode cX11_spread 84 = .ok (.isub, 1) := by decide +kernel
theorem dX11_spread_85 : decode cX11_spread 85 = .ok (.ireturn, 1) := by decide +kernel
set_option maxRecDepth 20000 in
theorem ggX11_about_X11_kept : GoodIn wsX11_about wsX11_kept := goodIn_r _ [13, 6, 14, 15, 16, 17, 18, 19, 20, 21, 22, 23, 24, 25, 26, 27, 28, 29, 30, 31, 32, 33, 34, 35, 36, 37, 38, 39, 40, 41, 42, 43, 44, 45, 46, 47, 48] (by decide +kernel) (by decide +kernel)
set_option maxRecDepth 20000 in
theorem gX11_about_X11_kept : GoodIn wsX11_about (wsV RX11 152 RX11 yX11_kept wsX11_kept) := goodIn_app (goodIn_of _ (by decide +kernel)) ggX11_about_X11_kept
theorem dX11_about_0 : decode cX11_about 0 = .ok (.iload_n 1, 1) := by decide +kernel
theorem dX11_about_1 : decode cX11_about 1 = .ok (.tableswitch 96 0 8 #[51, 56, 61, 66, 71, 76, 81, 86, 91], 51) := by decide +kernel
theorem dX11_about_52 : decode cX11_about 52 = .ok (.aload_n 0, 1) := by decide +kernel
theorem dX11_about_53 : decode cX11_about 53 = .ok (.getfield 7, 3) := by decide +kernel
theorem dX11_about_56 : decode cX11_about 56 = .ok (.ireturn, 1) := by decide +kernel
theorem dX11_about_57 : decode cX11_about 57 = .ok (.aload_n 0, 1) := by decide +kernel
theorem dX11_about_58 : decode cX11_about 58 = .ok (.getfield 13, 3) := by decide +kernel
theorem dX11_about_61 : decode cX11_about 61 = .ok (.ireturn, 1) := by decide +kernel
theorem dX11_about_62 : decode cX11_about 62 = .ok (.aload_n 0, 1) := by decide +kernel
theorem dX11_about_63 : decode cX11_about 63 = .ok (.getfield 103, 3) := by decide +kernel
theorem dX11_about_66 : decode cX11_about 66 = .ok (.ireturn, 1) := by decide +kernel
theorem dX11_about_67 : decode cX11_about 67 = .ok (.aload_n 0, 1) := by decide +kernel
theorem dX11_about_68 : decode cX11_about 68 = .ok (.getfield 16, 3) := by decide +kernel
theorem dX11_about_71 : decode cX11_about 71 = .ok (.ireturn, 1) := by decide +kernel
theorem dX11_about_72 : decode cX11_about 72 = .ok (.aload_n 0, 1) := by decide +kernel
theorem dX11_about_73 : decode cX11_about 73 = .ok (.getfield 109, 3) := by decide +kernel
theorem dX11_about_76 : decode cX11_about 76 = .ok (.ireturn, 1) := by decide +kernel
theorem dX11_about_77 : decode cX11_about 77 = .ok (.aload_n 0, 1) := by decide +kernel
theorem dX11_about_78 : decode cX11_about 78 = .ok (.getfield 81, 3) := by decide +kernel
theorem dX11_about_81 : decode cX11_about 81 = .ok (.ireturn, 1) := by decide +kernel
theorem dX11_about_82 : decode cX11_about 82 = .ok (.aload_n 0, 1) := by decide +kernel
theorem dX11_about_83 : decode cX11_about 83 = .ok (.invokevirtual 152, 3) := by decide +kernel
theorem dX11_about_86 : decode cX11_about 86 = .ok (.ireturn, 1) := by decide +kernel
theorem dX11_about_87 : decode cX11_about 87 = .ok (.aload_n 0, 1) := by decide +kernel
theorem dX11_about_88 : decode cX11_about 88 = .ok (.getfield 168, 3) := by decide +kernel
theorem dX11_about_91 : decode cX11_about 91 = .ok (.ireturn, 1) := by decide +kernel
theorem dX11_about_92 : decode cX11_about 92 = .ok (.aload_n 0, 1) := by decide +kernel
theorem dX11_about_93 : decode cX11_about 93 = .ok (.getfield 84, 3) := by decide +kernel
theorem dX11_about_96 : decode cX11_about 96 = .ok (.ireturn, 1) := by decide +kernel
theorem dX11_about_97 : decode cX11_about 97 = .ok (.iconst (-1), 1) := by decide +kernel
theorem dX11_about_98 : decode cX11_about 98 = .ok (.ireturn, 1) := by decide +kernel
theorem dX11_step_0 : decode cX11_step 0 = .ok (.iload_n 1, 1) := by decide +kernel
theorem dX11_step_1 : decode cX11_step 1 = .ok (.ifCond .lt 11, 3) := by decide +kernel
theorem dX11_step_4 : decode cX11_step 4 = .ok (.iload_n 1, 1) := by decide +kernel
theorem dX11_step_5 : decode cX11_step 5 = .ok (.aload_n 0, 1) := by decide +kernel
theorem dX11_step_6 : decode cX11_step 6 = .ok (.getfield 13, 3) := by decide +kernel
theorem dX11_step_9 : decode cX11_step 9 = .ok (.if_icmp .lt 8, 3) := by decide +kernel
theorem dX11_step_12 : decode cX11_step 12 = .ok (.ldc 151, 2) := by decide +kernel
theorem dX11_step_14 : decode cX11_step 14 = .ok (.goto 9, 3) := by decide +kernel
theorem dX11_step_17 : decode cX11_step 17 = .ok (.aload_n 0, 1) := by decide +kernel
theorem dX11_step_18 : decode cX11_step 18 = .ok (.getfield 19, 3) := by decide +kernel
theorem dX11_step_21 : decode cX11_step 21 = .ok (.iload_n 1, 1) := by decide +kernel
theorem dX11_step_22 : decode cX11_step 22 = .ok (.iaload, 1) := by decide +kernel
theorem dX11_step_23 : decode cX11_step 23 = .ok (.ireturn, 1) := by decide +kernel
theorem dJ9_floorDiv_f86c9_0 : decode cJ9_floorDiv_f86c9 0 = .ok (.lload_n 0, 1) := by decide +kernel
theorem dJ9_floorDiv_f86c9_1 : decode cJ9_floorDiv_f86c9 1 = .ok (.lload_n 2, 1) := by decide +kernel
theorem dJ9_floorDiv_f86c9_2 : decode cJ9_floorDiv_f86c9 2 = .ok (.ldiv, 1) := by decide +kernel
theorem dJ9_floorDiv_f86c9_3 : decode cJ9_floorDiv_f86c9 3 = .ok (.lstore 4, 2) := by decide +kernel
theorem dJ9_floorDiv_f86c9_5 : decode cJ9_floorDiv_f86c9 5 = .ok (.lload_n 0, 1) := by decide +kernel
theorem dJ9_floorDiv_f86c9_6 : decode cJ9_floorDiv_f86c9 6 = .ok (.lload_n 2, 1) := by decide +kernel
theorem dJ9_floorDiv_f86c9_7 : decode cJ9_floorDiv_f86c9 7 = .ok (.lxor, 1) := by decide +kernel
theorem dJ9_floorDiv_f86c9_8 : decode cJ9_floorDiv_f86c9 8 = .ok (.lconst 0, 1) := by decide +kernel
theorem dJ9_floorDiv_f86c9_9 : decode cJ9_floorDiv_f86c9 9 = .ok (.lcmp, 1) := by decide +kernel
theorem dJ9_floorDiv_f86c9_10 : decode cJ9_floorDiv_f86c9 10 = .ok (.ifCond .ge 17, 3) := by decide +kernel
theorem dJ9_floorDiv_f86c9_13 : decode cJ9_floorDiv_f86c9 13 = .ok (.lload 4, 2) := by decide +kernel
theorem dJ9_floorDiv_f86c9_15 : decode cJ9_floorDiv_f86c9 15 = .ok (.lload_n 2, 1) := by decide +kernel
theorem dJ9_floorDiv_f86c9_16 : decode cJ9_floorDiv_f86c9 16 = .ok (.lmul, 1) := by decide +kernel
theorem dJ9_floorDiv_f86c9_17 : decode cJ9_floorDiv_f86c9 17 = .ok (.lload_n 0, 1) := by decide +kernel
theorem dJ9_floorDiv_f86c9_18 : decode cJ9_floorDiv_f86c9 18 = .ok (.lcmp, 1) := by decide +kernel
theorem dJ9_floorDiv_f86c9_19 : decode cJ9_floorDiv_f86c9 19 = .ok (.ifCond .eq 8, 3) := by decide +kernel
theorem dJ9_floorDiv_f86c9_22 : decode cJ9_floorDiv_f86c9 22 = .ok (.lload 4, 2) := by decide +kernel
theorem dJ9_floorDiv_f86c9_24 : decode cJ9_floorDiv_f86c9 24 = .ok (.lconst 1, 1) := by decide +kernel
theorem dJ9_floorDiv_f86c9_25 : decode cJ9_floorDiv_f86c9 25 = .ok (.lsub, 1) := by decide +kernel
theorem dJ9_floorDiv_f86c9_26 : decode cJ9_floorDiv_f86c9 26 = .ok (.lreturn, 1) := by decide +kernel
theorem dJ9_floorDiv_f86c9_27 : decode cJ9_floorDiv_f86c9 27 = .ok (.lload 4, 2) := by decide +kernel
theorem dJ9_floorDiv_f86c9_29 : decode cJ9_floorDiv_f86c9 29 = .ok (.lreturn, 1) := by decide +kernel
theorem dJ9_max_7cf53_0 : decode cJ9_max_7cf53 0 = .ok (.iload_n 0, 1) := by decide +kernel
theorem dJ9_max_7cf53_1 : decode cJ9_max_7cf53 1 = .ok (.iload_n 1, 1) := by decide +kernel
theorem dJ9_max_7cf53_2 : decode cJ9_max_7cf53 2 = .ok (.if_icmp .lt 7, 3) := by decide +kernel
theorem dJ9_max_7cf53_5 : decode cJ9_max_7cf53 5 = .ok (.iload_n 0, 1) := by decide +kernel
theorem dJ9_max_7cf53_6 : decode cJ9_max_7cf53 6 = .ok (.goto 4, 3) := by decide +kernel
theorem dJ9_max_7cf53_9 : decode cJ9_max_7cf53 9 = .ok (.iload_n 1, 1) := by decide +kernel
theorem dJ9_max_7cf53_10 : decode cJ9_max_7cf53 10 = .ok (.ireturn, 1) := by decide +kernel
theorem dJ9_max_f86c9_0 : decode cJ9_max_f86c9 0 = .ok (.lload_n 0, 1) := by decide +kernel
theorem dJ9_max_f86c9_1 : decode cJ9_max_f86c9 1 = .ok (.lload_n 2, 1) := by decide +kernel
theorem dJ9_max_f86c9_2 : decode cJ9_max_f86c9 2 = .ok (.lcmp, 1) := by decide +kernel
theorem dJ9_max_f86c9_3 : decode cJ9_max_f86c9 3 = .ok (.ifCond .lt 7, 3) := by decide +kernel
theorem dJ9_max_f86c9_6 : decode cJ9_max_f86c9 6 = .ok (.lload_n 0, 1) := by decide +kernel
theorem dJ9_max_f86c9_7 : decode cJ9_max_f86c9 7 = .ok (.goto 4, 3) := by decide +kernel
theorem dJ9_max_f86c9_10 : decode cJ9_max_f86c9 10 = .ok (.lload_n 2, 1) := by decide +kernel
theorem dJ9_max_f86c9_11 : decode cJ9_max_f86c9 11 = .ok (.lreturn, 1) := by decide +kernel
theorem dJ9_min_7cf53_0 : decode cJ9_min_7cf53 0 = .ok (.iload_n 0, 1) := by decide +kernel
theorem dJ9_min_7cf53_1 : decode cJ9_min_7cf53 1 = .ok (.iload_n 1, 1) := by decide +kernel
theorem dJ9_min_7cf53_2 : decode cJ9_min_7cf53 2 = .ok (.if_icmp .gt 7, 3) := by decide +kernel
theorem dJ9_min_7cf53_5 : decode cJ9_min_7cf53 5 = .ok (.iload_n 0, 1) := by decide +kernel
theorem dJ9_min_7cf53_6 : decode cJ9_min_7cf53 6 = .ok (.goto 4, 3) := by decide +kernel
theorem dJ9_min_7cf53_9 : decode cJ9_min_7cf53 9 = .ok (.iload_n 1, 1) := by decide +kernel
theorem dJ9_min_7cf53_10 : decode cJ9_min_7cf53 10 = .ok (.ireturn, 1) := by decide +kernel
theorem dJ9_min_f86c9_0 : decode cJ9_min_f86c9 0 = .ok (.lload_n 0, 1) := by decide +kernel
theorem dJ9_min_f86c9_1 : decode cJ9_min_f86c9 1 = .ok (.lload_n 2, 1) := by decide +kernel
theorem dJ9_min_f86c9_2 : decode cJ9_min_f86c9 2 = .ok (.lcmp, 1) := by decide +kernel
theorem dJ9_min_f86c9_3 : decode cJ9_min_f86c9 3 = .ok (.ifCond .gt 7, 3) := by decide +kernel
theorem dJ9_min_f86c9_6 : decode cJ9_min_f86c9 6 = .ok (.lload_n 0, 1) := by decide +kernel
theorem dJ9_min_f86c9_7 : decode cJ9_min_f86c9 7 = .ok (.goto 4, 3) := by decide +kernel
theorem dJ9_min_f86c9_10 : decode cJ9_min_f86c9 10 = .ok (.lload_n 2, 1) := by decide +kernel
theorem dJ9_min_f86c9_11 : decode cJ9_min_f86c9 11 = .ok (.lreturn, 1) := by decide +kernel
abbrev vwCl : List vw_C := [(RX0, TX0, 4), (RX1, TX1, 3), (RX2, TX2, 2), (RX3, TX3, 6), (RX4, TX4, 9), (RX5, TX5, 6), (RX6, TX6, 4), (RX7, TX7, 3), (RX8, TX8, 6), (RX9, TX9, 5), (RX10, TX10, 6), (RX11, TX11, 35)]
