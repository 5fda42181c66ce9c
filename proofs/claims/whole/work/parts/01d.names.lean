theorem dX11_table_144 : decode cX11_table 144 = .ok (.iload_n 1, 1) := by decide +kernel
theorem dX11_table_145 : decode cX11_table 145 = .ok (.iconst 4, 1) := by decide +kernel
theorem dX11_table_146 : decode cX11_table 146 = .ok (.if_icmp .ne 16, 3) := by decide +kernel
theorem dX11_table_149 : decode cX11_table 149 = .ok (.iload_n 2, 1) := by decide +kernel
theorem dX11_table_150 : decode cX11_table 150 = .ok (.iconst 4, 1) := by decide +kernel
theorem dX11_table_151 : decode cX11_table 151 = .ok (.if_icmp .ne 11, 3) := by decide +kernel
theorem dX11_table_154 : decode cX11_table 154 = .ok (.aload_n 0, 1) := by decide +kernel
theorem dX11_table_155 : decode cX11_table 155 = .ok (.iload_n 3, 1) := by decide +kernel
theorem dX11_table_156 : decode cX11_table 156 = .ok (.putfield 112, 3) := by decide +kernel
theorem dX11_table_159 : decode cX11_table 159 = .ok (.goto 5, 3) := by decide +kernel
theorem dX11_table_162 : decode cX11_table 162 = .ok (.iconst 0, 1) := by decide +kernel
theorem dX11_table_163 : decode cX11_table 163 = .ok (.ireturn, 1) := by decide +kernel
theorem dX11_table_164 : decode cX11_table 164 = .ok (.aload_n 0, 1) := by decide +kernel
theorem dX11_table_165 : decode cX11_table 165 = .ok (.invokevirtual 100, 3) := by decide +kernel
theorem dX11_table_168 : decode cX11_table 168 = .ok (.iconst 1, 1) := by decide +kernel
theorem dX11_table_169 : decode cX11_table 169 = .ok (.ireturn, 1) := by decide +kernel
theorem dX11_isSum_0 : decode cX11_isSum 0 = .ok (.iload_n 1, 1) := by decide +kernel
theorem dX11_isSum_1 : decode cX11_isSum 1 = .ok (.ifCond .lt 15, 3) := by decide +kernel
theorem dX11_isSum_4 : decode cX11_isSum 4 = .ok (.iload_n 1, 1) := by decide +kernel
theorem dX11_isSum_5 : decode cX11_isSum 5 = .ok (.aload_n 0, 1) := by decide +kernel
theorem dX11_isSum_6 : decode cX11_isSum 6 = .ok (.getfield 16, 3) := by decide +kernel
theorem dX11_isSum_9 : decode cX11_isSum 9 = .ok (.if_icmp .ge 7, 3) := by decide +kernel
theorem dX11_isSum_12 : decode cX11_isSum 12 = .ok (.iconst 1, 1) := by decide +kernel
theorem dX11_isSum_13 : decode cX11_isSum 13 = .ok (.goto 4, 3) := by decide +kernel
theorem dX11_isSum_16 : decode cX11_isSum 16 = .ok (.iconst 0, 1) := by decide +kernel
theorem dX11_isSum_17 : decode cX11_isSum 17 = .ok (.ireturn, 1) := by decide +kernel
theorem dX11_isNear_0 : decode cX11_isNear 0 = .ok (.lload_n 0, 1) := by decide +kernel
theorem dX11_isNear_1 : decode cX11_isNear 1 = .ok (.ldc2_w 115, 3) := by decide +kernel
theorem dX11_isNear_4 : decode cX11_isNear 4 = .ok (.lcmp, 1) := by decide +kernel
theorem dX11_isNear_5 : decode cX11_isNear 5 = .ok (.ifCond .gt 15, 3) := by decide +kernel
theorem dX11_isNear_8 : decode cX11_isNear 8 = .ok (.lload_n 0, 1) := by decide +kernel
theorem dX11_isNear_9 : decode cX11_isNear 9 = .ok (.ldc2_w 117, 3) := by decide +kernel
theorem dX11_isNear_12 : decode cX11_isNear 12 = .ok (.lcmp, 1) := by decide +kernel
theorem dX11_isNear_13 : decode cX11_isNear 13 = .ok (.ifCond .lt 7, 3) := by decide +kernel
theorem dX11_isNear_16 : decode cX11_isNear 16 = .ok (.iconst 1, 1) := by decide +kernel
theorem dX11_isNear_17 : decode cX11_isNear 17 = .ok (.goto 4, 3) := by decide +kernel
theorem dX11_isNear_20 : decode cX11_isNear 20 = .ok (.iconst 0, 1) := by decide +kernel
theorem dX11_isNear_21 : decode cX11_isNear 21 = .ok (.ireturn, 1) := by decide +kernel
set_option maxRecDepth 20000 in
theorem ggX11_start_X11_isSum : GoodIn wsX11_start wsX11_isSum := goodIn_r _ [8, 9, 15, 16, 17, 18, 19, 20, 21, 22, 23, 24, 25, 26, 27, 28, 29, 30, 31, 32, 33, 34, 35, 36, 37, 38, 39, 40, 41, 42, 43, 44, 45, 46, 47, 48, 49] (by decide +kernel) (by decide +kernel)
set_option maxRecDepth 20000 in
theorem gX11_start_X11_isSum : GoodIn wsX11_start (wsV RX11 119 RX11 yX11_isSum wsX11_isSum) := goodIn_app (goodIn_of _ (by decide +kernel)) ggX11_start_X11_isSum
set_option maxRecDepth 20000 in
theorem ggX11_start_X11_isNear : GoodIn wsX11_start wsX11_isNear := goodIn_r _ [12, 13, 14] (by decide +kernel) (by decide +kernel)
set_option maxRecDepth 20000 in
theorem gX11_start_X11_isNear : GoodIn wsX11_start (va_wsS RX11 123 yX11_isNear wsX11_isNear) := goodIn_app (goodIn_of _ (by decide +kernel)) ggX11_start_X11_isNear
theorem dX11_start_0 : decode cX11_start 0 = .ok (.aload_n 0, 1) := by decide +kernel
theorem dX11_start_1 : decode cX11_start 1 = .ok (.iload_n 1, 1) := by decide +kernel
theorem dX11_start_2 : decode cX11_start 2 = .ok (.invokevirtual 119, 3) := by decide +kernel
theorem dX11_start_5 : decode cX11_start 5 = .ok (.ifCond .eq 17, 3) := by decide +kernel
theorem dX11_start_8 : decode cX11_start 8 = .ok (.lload_n 2, 1) := by decide +kernel
theorem dX11_start_9 : decode cX11_start 9 = .ok (.invokestatic 123, 3) := by decide +kernel
theorem dX11_start_12 : decode cX11_start 12 = .ok (.ifCond .eq 10, 3) := by decide +kernel
theorem dX11_start_15 : decode cX11_start 15 = .ok (.aload_n 0, 1) := by decide +kernel
theorem dX11_start_16 : decode cX11_start 16 = .ok (.getfield 81, 3) := by decide +kernel
theorem dX11_start_19 : decode cX11_start 19 = .ok (.ifCond .le 5, 3) := by decide +kernel
theorem dX11_start_22 : decode cX11_start 22 = .ok (.iconst 0, 1) := by decide +kernel
theorem dX11_start_23 : decode cX11_start 23 = .ok (.ireturn, 1) := by decide +kernel
theorem dX11_start_24 : decode cX11_start 24 = .ok (.aload_n 0, 1) := by decide +kernel
theorem dX11_start_25 : decode cX11_start 25 = .ok (.getfield 38, 3) := by decide +kernel
theorem dX11_start_28 : decode cX11_start 28 = .ok (.iload_n 1, 1) := by decide +kernel
theorem dX11_start_29 : decode cX11_start 29 = .ok (.lload_n 2, 1) := by decide +kernel
theorem dX11_start_30 : decode cX11_start 30 = .ok (.lastore, 1) := by decide +kernel
theorem dX11_start_31 : decode cX11_start 31 = .ok (.aload_n 0, 1) := by decide +kernel
theorem dX11_start_32 : decode cX11_start 32 = .ok (.aload_n 0, 1) := by decide +kernel
theorem dX11_start_33 : decode cX11_start 33 = .ok (.getfield 38, 3) := by decide +kernel
theorem dX11_start_36 : decode cX11_start 36 = .ok (.iconst 0, 1) := by decide +kernel
theorem dX11_start_37 : decode cX11_start 37 = .ok (.laload, 1) := by decide +kernel
theorem dX11_start_38 : decode cX11_start 38 = .ok (.lconst 0, 1) := by decide +kernel
theorem dX11_start_39 : decode cX11_start 39 = .ok (.lcmp, 1) := by decide +kernel
theorem dX11_start_40 : decode cX11_start 40 = .ok (.ifCond .eq 7, 3) := by decide +kernel
theorem dX11_start_43 : decode cX11_start 43 = .ok (.iconst 1, 1) := by decide +kernel
theorem dX11_start_44 : decode cX11_start 44 = .ok (.goto 4, 3) := by decide +kernel
theorem dX11_start_47 : decode cX11_start 47 = .ok (.iconst 0, 1) := by decide +kernel
theorem dX11_start_48 : decode cX11_start 48 = .ok (.putfield 96, 3) := by decide +kernel
theorem dX11_start_51 : decode cX11_start 51 = .ok (.iconst 1, 1) := by decide +kernel
theorem dX11_start_52 : decode cX11_start 52 = .ok (.ireturn, 1) := by decide +kernel
theorem dX11_stepFor_0 : decode cX11_stepFor 0 = .ok (.aload_n 0, 1) := by decide +kernel
theorem dX11_stepFor_1 : decode cX11_stepFor 1 = .ok (.getfield 19, 3) := by decide +kernel
theorem dX11_stepFor_4 : decode cX11_stepFor 4 = .ok (.iconst 0, 1) := by decide +kernel
theorem dX11_stepFor_5 : decode cX11_stepFor 5 = .ok (.iaload, 1) := by decide +kernel
theorem dX11_stepFor_6 : decode cX11_stepFor 6 = .ok (.istore_n 3, 1) := by decide +kernel
theorem dX11_stepFor_7 : decode cX11_stepFor 7 = .ok (.iconst 1, 1) := by decide +kernel
theorem dX11_stepFor_8 : decode cX11_stepFor 8 = .ok (.istore 4, 2) := by decide +kernel
theorem dX11_stepFor_10 : decode cX11_stepFor 10 = .ok (.iload 4, 2) := by decide +kernel
theorem dX11_stepFor_12 : decode cX11_stepFor 12 = .ok (.aload_n 0, 1) := by decide +kernel
theorem dX11_stepFor_13 : decode cX11_stepFor 13 = .ok (.getfield 13, 3) := by decide +kernel
theorem dX11_stepFor_16 : decode cX11_stepFor 16 = .ok (.if_icmp .ge 36, 3) := by decide +kernel
theorem dX11_stepFor_19 : decode cX11_stepFor 19 = .ok (.aload_n 0, 1) := by decide +kernel
theorem dX11_stepFor_20 : decode cX11_stepFor 20 = .ok (.getfield 19, 3) := by decide +kernel
theorem dX11_stepFor_23 : decode cX11_stepFor 23 = .ok (.iload 4, 2) := by decide +kernel
theorem dX11_stepFor_25 : decode cX11_stepFor 25 = .ok (.iaload, 1) := by decide +kernel
theorem dX11_stepFor_26 : decode cX11_stepFor 26 = .ok (.i2l, 1) := by decide +kernel
theorem dX11_stepFor_27 : decode cX11_stepFor 27 = .ok (.aload_n 0, 1) := by decide +kernel
theorem dX11_stepFor_28 : decode cX11_stepFor 28 = .ok (.getfield 7, 3) := by decide +kernel
theorem dX11_stepFor_31 : decode cX11_stepFor 31 = .ok (.i2l, 1) := by decide +kernel
theorem dX11_stepFor_32 : decode cX11_stepFor 32 = .ok (.lmul, 1) := by decide +kernel
theorem dX11_stepFor_33 : decode cX11_stepFor 33 = .ok (.lload_n 1, 1) := by decide +kernel
theorem dX11_stepFor_34 : decode cX11_stepFor 34 = .ok (.lcmp, 1) := by decide +kernel
theorem dX11_stepFor_35 : decode cX11_stepFor 35 = .ok (.ifCond .gt 11, 3) := by decide +kernel
theorem dX11_stepFor_38 : decode cX11_stepFor 38 = .ok (.aload_n 0, 1) := by decide +kernel
theorem dX11_stepFor_39 : decode cX11_stepFor 39 = .ok (.getfield 19, 3) := by decide +kernel
theorem dX11_stepFor_42 : decode cX11_stepFor 42 = .ok (.iload 4, 2) := by decide +kernel
theorem dX11_stepFor_44 : decode cX11_stepFor 44 = .ok (.iaload, 1) := by decide +kernel
theorem dX11_stepFor_45 : decode cX11_stepFor 45 = .ok (.istore_n 3, 1) := by decide +kernel
theorem dX11_stepFor_46 : decode cX11_stepFor 46 = .ok (.iinc 4 1, 3) := by decide +kernel
theorem dX11_stepFor_49 : decode cX11_stepFor 49 = .ok (.goto (-39), 3) := by decide +kernel
theorem dX11_stepFor_52 : decode cX11_stepFor 52 = .ok (.iload_n 3, 1) := by decide +kernel
theorem dX11_stepFor_53 : decode cX11_stepFor 53 = .ok (.ireturn, 1) := by decide +kernel
set_option maxRecDepth 20000 in
theorem ggX11_next_X11_stepFor : GoodIn wsX11_next wsX11_stepFor := goodIn_r _ [17, 18, 19, 6, 25, 26, 27, 28, 29, 30, 31, 32, 33, 34, 35, 36, 37, 38, 39, 40, 41, 42, 43, 44, 45, 46, 47, 48, 49, 50, 51, 52, 53, 54, 55, 56, 57, 58, 59] (by decide +kernel) (by decide +kernel)
set_option maxRecDepth 20000 in
theorem gX11_next_X11_stepFor : GoodIn wsX11_next (wsV RX11 129 RX11 yX11_stepFor wsX11_stepFor) := goodIn_app (goodIn_of _ (by decide +kernel)) ggX11_next_X11_stepFor
set_option maxRecDepth 20000 in
theorem ggX11_next_X11_isNear : GoodIn wsX11_next wsX11_isNear := goodIn_r _ [22, 23, 24] (by decide +kernel) (by decide +kernel)
set_option maxRecDepth 20000 in
theorem gX11_next_X11_isNear : GoodIn wsX11_next (va_wsS RX11 123 yX11_isNear wsX11_isNear) := goodIn_app (goodIn_of _ (by decide +kernel)) ggX11_next_X11_isNear
theorem dX11_next_0 : decode cX11_next 0 = .ok (.aload_n 0, 1) := by decide +kernel
theorem dX11_next_1 : decode cX11_next 1 = .ok (.getfield 103, 3) := by decide +kernel
theorem dX11_next_4 : decode cX11_next 4 = .ok (.tableswitch 344 1 3 #[28, 96, 264], 28) := by decide +kernel
theorem dX11_next_32 : decode cX11_next 32 = .ok (.iload_n 1, 1) := by decide +kernel
theorem dX11_next_33 : decode cX11_next 33 = .ok (.i2l, 1) := by decide +kernel
theorem dX11_next_34 : decode cX11_next 34 = .ok (.ldc2_w 127, 3) := by decide +kernel
theorem dX11_next_37 : decode cX11_next 37 = .ok (.aload_n 0, 1) := by decide +kernel
theorem dX11_next_38 : decode cX11_next 38 = .ok (.getfield 66, 3) := by decide +kernel
theorem dX11_next_41 : decode cX11_next 41 = .ok (.iconst 0, 1) := by decide +kernel
theorem dX11_next_42 : decode cX11_next 42 = .ok (.laload, 1) := by decide +kernel
theorem dX11_next_43 : decode cX11_next 43 = .ok (.lmul, 1) := by decide +kernel
theorem dX11_next_44 : decode cX11_next 44 = .ok (.ladd, 1) := by decide +kernel
theorem dX11_next_45 : decode cX11_next 45 = .ok (.aload_n 0, 1) := by decide +kernel
theorem dX11_next_46 : decode cX11_next 46 = .ok (.getfield 66, 3) := by decide +kernel
theorem dX11_next_49 : decode cX11_next 49 = .ok (.iconst 1, 1) := by decide +kernel
theorem dX11_next_50 : decode cX11_next 50 = .ok (.laload, 1) := by decide +kernel
theorem dX11_next_51 : decode cX11_next 51 = .ok (.lsub, 1) := by decide +kernel
theorem dX11_next_52 : decode cX11_next 52 = .ok (.lstore_n 2, 1) := by decide +kernel
theorem dX11_next_53 : decode cX11_next 53 = .ok (.aload_n 0, 1) := by decide +kernel
theorem dX11_next_54 : decode cX11_next 54 = .ok (.getfield 72, 3) := by decide +kernel
theorem dX11_next_57 : decode cX11_next 57 = .ok (.iconst 0, 1) := by decide +kernel
theorem dX11_next_58 : decode cX11_next 58 = .ok (.aload_n 0, 1) := by decide +kernel
theorem dX11_next_59 : decode cX11_next 59 = .ok (.lload_n 2, 1) := by decide +kernel
theorem dX11_next_60 : decode cX11_next 60 = .ok (.invokevirtual 129, 3) := by decide +kernel
theorem dX11_next_63 : decode cX11_next 63 = .ok (.iastore, 1) := by decide +kernel
theorem dX11_next_64 : decode cX11_next 64 = .ok (.aload_n 0, 1) := by decide +kernel
theorem dX11_next_65 : decode cX11_next 65 = .ok (.getfield 69, 3) := by decide +kernel
theorem dX11_next_68 : decode cX11_next 68 = .ok (.iconst 1, 1) := by decide +kernel
theorem dX11_next_69 : decode cX11_next 69 = .ok (.aload_n 0, 1) := by decide +kernel
theorem dX11_next_70 : decode cX11_next 70 = .ok (.getfield 66, 3) := by decide +kernel
theorem dX11_next_73 : decode cX11_next 73 = .ok (.iconst 0, 1) := by decide +kernel
theorem dX11_next_74 : decode cX11_next 74 = .ok (.laload, 1) := by decide +kernel
theorem dX11_next_75 : decode cX11_next 75 = .ok (.lastore, 1) := by decide +kernel
theorem dX11_next_76 : decode cX11_next 76 = .ok (.aload_n 0, 1) := by decide +kernel
theorem dX11_next_77 : decode cX11_next 77 = .ok (.getfield 69, 3) := by decide +kernel
theorem dX11_next_80 : decode cX11_next 80 = .ok (.iconst 0, 1) := by decide +kernel
theorem dX11_next_81 : decode cX11_next 81 = .ok (.lload_n 2, 1) := by decide +kernel
theorem dX11_next_82 : decode cX11_next 82 = .ok (.aload_n 0, 1) := by decide +kernel
theorem dX11_next_83 : decode cX11_next 83 = .ok (.getfield 72, 3) := by decide +kernel
theorem dX11_next_86 : decode cX11_next 86 = .ok (.iconst 0, 1) := by decide +kernel
theorem dX11_next_87 : decode cX11_next 87 = .ok (.iaload, 1) := by decide +kernel
theorem dX11_next_88 : decode cX11_next 88 = .ok (.i2l, 1) := by decide +kernel
theorem dX11_next_89 : decode cX11_next 89 = .ok (.aload_n 0, 1) := by decide +kernel
theorem dX11_next_90 : decode cX11_next 90 = .ok (.getfield 7, 3) := by decide +kernel
theorem dX11_next_93 : decode cX11_next 93 = .ok (.i2l, 1) := by decide +kernel
theorem dX11_next_94 : decode cX11_next 94 = .ok (.lmul, 1) := by decide +kernel
theorem dX11_next_95 : decode cX11_next 95 = .ok (.lsub, 1) := by decide +kernel
theorem dX11_next_96 : decode cX11_next 96 = .ok (.lastore, 1) := by decide +kernel
theorem dX11_next_97 : decode cX11_next 97 = .ok (.goto 293, 3) := by decide +kernel
theorem dX11_next_100 : decode cX11_next 100 = .ok (.aload_n 0, 1) := by decide +kernel
theorem dX11_next_101 : decode cX11_next 101 = .ok (.getfield 112, 3) := by decide +kernel
theorem dX11_next_104 : decode cX11_next 104 = .ok (.i2l, 1) := by decide +kernel
theorem dX11_next_105 : decode cX11_next 105 = .ok (.iload_n 1, 1) := by decide +kernel
theorem dX11_next_106 : decode cX11_next 106 = .ok (.i2l, 1) := by decide +kernel
theorem dX11_next_107 : decode cX11_next 107 = .ok (.lmul, 1) := by decide +kernel
theorem dX11_next_108 : decode cX11_next 108 = .ok (.lstore_n 2, 1) := by decide +kernel
theorem dX11_next_109 : decode cX11_next 109 = .ok (.iconst 0, 1) := by decide +kernel
theorem dX11_next_110 : decode cX11_next 110 = .ok (.istore 4, 2) := by decide +kernel
theorem dX11_next_112 : decode cX11_next 112 = .ok (.iload 4, 2) := by decide +kernel
theorem dX11_next_114 : decode cX11_next 114 = .ok (.aload_n 0, 1) := by decide +kernel
theorem dX11_next_115 : decode cX11_next 115 = .ok (.getfield 16, 3) := by decide +kernel
theorem dX11_next_118 : decode cX11_next 118 = .ok (.if_icmp .ge 28, 3) := by decide +kernel
theorem dX11_next_121 : decode cX11_next 121 = .ok (.lload_n 2, 1) := by decide +kernel
theorem dX11_next_122 : decode cX11_next 122 = .ok (.aload_n 0, 1) := by decide +kernel
theorem dX11_next_123 : decode cX11_next 123 = .ok (.getfield 35, 3) := by decide +kernel
theorem dX11_next_126 : decode cX11_next 126 = .ok (.iload 4, 2) := by decide +kernel
theorem dX11_next_128 : decode cX11_next 128 = .ok (.iaload, 1) := by decide +kernel
theorem dX11_next_129 : decode cX11_next 129 = .ok (.i2l, 1) := by decide +kernel
theorem dX11_next_130 : decode cX11_next 130 = .ok (.aload_n 0, 1) := by decide +kernel
theorem dX11_next_131 : decode cX11_next 131 = .ok (.getfield 66, 3) := by decide +kernel
theorem dX11_next_134 : decode cX11_next 134 = .ok (.iload 4, 2) := by decide +kernel
theorem dX11_next_136 : decode cX11_next 136 = .ok (.laload, 1) := by decide +kernel
theorem dX11_next_137 : decode cX11_next 137 = .ok (.lmul, 1) := by decide +kernel
theorem dX11_next_138 : decode cX11_next 138 = .ok (.ladd, 1) := by decide +kernel
theorem dX11_next_139 : decode cX11_next 139 = .ok (.lstore_n 2, 1) := by decide +kernel
theorem dX11_next_140 : decode cX11_next 140 = .ok (.iinc 4 1, 3) := by decide +kernel
theorem dX11_next_143 : decode cX11_next 143 = .ok (.goto (-31), 3) := by decide +kernel
theorem dX11_next_146 : decode cX11_next 146 = .ok (.aload_n 0, 1) := by decide +kernel
theorem dX11_next_147 : decode cX11_next 147 = .ok (.getfield 72, 3) := by decide +kernel
theorem dX11_next_150 : decode cX11_next 150 = .ok (.iconst 0, 1) := by decide +kernel
theorem dX11_next_151 : decode cX11_next 151 = .ok (.aload_n 0, 1) := by decide +kernel
theorem dX11_next_152 : decode cX11_next 152 = .ok (.lload_n 2, 1) := by decide +kernel
theorem dX11_next_153 : decode cX11_next 153 = .ok (.invokevirtual 129, 3) := by decide +kernel
theorem dX11_next_156 : decode cX11_next 156 = .ok (.iastore, 1) := by decide +kernel
theorem dX11_next_157 : decode cX11_next 157 = .ok (.iconst 0, 1) := by decide +kernel
theorem dX11_next_158 : decode cX11_next 158 = .ok (.istore 4, 2) := by decide +kernel
theorem dX11_next_160 : decode cX11_next 160 = .ok (.iload 4, 2) := by decide +kernel
theorem dX11_next_162 : decode cX11_next 162 = .ok (.aload_n 0, 1) := by decide +kernel
theorem dX11_next_163 : decode cX11_next 163 = .ok (.getfield 16, 3) := by decide +kernel
theorem dX11_next_166 : decode cX11_next 166 = .ok (.if_icmp .ge 99, 3) := by decide +kernel
theorem dX11_next_169 : decode cX11_next 169 = .ok (.aload_n 0, 1) := by decide +kernel
theorem dX11_next_170 : decode cX11_next 170 = .ok (.getfield 69, 3) := by decide +kernel
theorem dX11_next_173 : decode cX11_next 173 = .ok (.iload 4, 2) := by decide +kernel
theorem dX11_next_175 : decode cX11_next 175 = .ok (.aload_n 0, 1) := by decide +kernel
theorem dX11_next_176 : decode cX11_next 176 = .ok (.getfield 29, 3) := by decide +kernel
theorem dX11_next_179 : decode cX11_next 179 = .ok (.iload 4, 2) := by decide +kernel
theorem dX11_next_181 : decode cX11_next 181 = .ok (.iaload, 1) := by decide +kernel
theorem dX11_next_182 : decode cX11_next 182 = .ok (.i2l, 1) := by decide +kernel
theorem dX11_next_183 : decode cX11_next 183 = .ok (.iload_n 1, 1) := by decide +kernel
theorem dX11_next_184 : decode cX11_next 184 = .ok (.i2l, 1) := by decide +kernel
theorem dX11_next_185 : decode cX11_next 185 = .ok (.lmul, 1) := by decide +kernel
theorem dX11_next_186 : decode cX11_next 186 = .ok (.aload_n 0, 1) := by decide +kernel
theorem dX11_next_187 : decode cX11_next 187 = .ok (.getfield 32, 3) := by decide +kernel
theorem dX11_next_190 : decode cX11_next 190 = .ok (.iload 4, 2) := by decide +kernel
theorem dX11_next_192 : decode cX11_next 192 = .ok (.iaload, 1) := by decide +kernel
theorem dX11_next_193 : decode cX11_next 193 = .ok (.i2l, 1) := by decide +kernel
theorem dX11_next_194 : decode cX11_next 194 = .ok (.aload_n 0, 1) := by decide +kernel
theorem dX11_next_195 : decode cX11_next 195 = .ok (.getfield 72, 3) := by decide +kernel
theorem dX11_next_198 : decode cX11_next 198 = .ok (.iconst 0, 1) := by decide +kernel
theorem dX11_next_199 : decode cX11_next 199 = .ok (.iaload, 1) := by decide +kernel
theorem dX11_next_200 : decode cX11_next 200 = .ok (.i2l, 1) := by decide +kernel
theorem dX11_next_201 : decode cX11_next 201 = .ok (.lmul, 1) := by decide +kernel
theorem dX11_next_202 : decode cX11_next 202 = .ok (.aload_n 0, 1) := by decide +kernel
theorem dX11_next_203 : decode cX11_next 203 = .ok (.getfield 7, 3) := by decide +kernel
theorem dX11_next_206 : decode cX11_next 206 = .ok (.i2l, 1) := by decide +kernel
theorem dX11_next_207 : decode cX11_next 207 = .ok (.lmul, 1) := by decide +kernel
theorem dX11_next_208 : decode cX11_next 208 = .ok (.ladd, 1) := by decide +kernel
theorem dX11_next_209 : decode cX11_next 209 = .ok (.lastore, 1) := by decide +kernel
theorem dX11_next_210 : decode cX11_next 210 = .ok (.iconst 0, 1) := by decide +kernel
theorem dX11_next_211 : decode cX11_next 211 = .ok (.istore 5, 2) := by decide +kernel
theorem dX11_next_213 : decode cX11_next 213 = .ok (.iload 5, 2) := by decide +kernel
theorem dX11_next_215 : decode cX11_next 215 = .ok (.aload_n 0, 1) := by decide +kernel
theorem dX11_next_216 : decode cX11_next 216 = .ok (.getfield 16, 3) := by decide +kernel
theorem dX11_next_219 : decode cX11_next 219 = .ok (.if_icmp .ge 40, 3) := by decide +kernel
theorem dX11_next_222 : decode cX11_next 222 = .ok (.aload_n 0, 1) := by decide +kernel
theorem dX11_next_223 : decode cX11_next 223 = .ok (.getfield 69, 3) := by decide +kernel
theorem dX11_next_226 : decode cX11_next 226 = .ok (.iload 4, 2) := by decide +kernel
theorem dX11_next_228 : decode cX11_next 228 = .ok (.dup2, 1) := by decide +kernel
theorem dX11_next_229 : decode cX11_next 229 = .ok (.laload, 1) := by decide +kernel
theorem dX11_next_230 : decode cX11_next 230 = .ok (.aload_n 0, 1) := by decide +kernel
theorem dX11_next_231 : decode cX11_next 231 = .ok (.getfield 26, 3) := by decide +kernel
theorem dX11_next_234 : decode cX11_next 234 = .ok (.iconst 4, 1) := by decide +kernel
theorem dX11_next_235 : decode cX11_next 235 = .ok (.iload 4, 2) := by decide +kernel
theorem dX11_next_237 : decode cX11_next 237 = .ok (.imul, 1) := by decide +kernel
theorem dX11_next_238 : decode cX11_next 238 = .ok (.iload 5, 2) := by decide +kernel
theorem dX11_next_240 : decode cX11_next 240 = .ok (.iadd, 1) := by decide +kernel
theorem dX11_next_241 : decode cX11_next 241 = .ok (.iaload, 1) := by decide +kernel
theorem dX11_next_242 : decode cX11_next 242 = .ok (.i2l, 1) := by decide +kernel
theorem dX11_next_243 : decode cX11_next 243 = .ok (.aload_n 0, 1) := by decide +kernel
theorem dX11_next_244 : decode cX11_next 244 = .ok (.getfield 66, 3) := by decide +kernel
theorem dX11_next_247 : decode cX11_next 247 = .ok (.iload 5, 2) := by decide +kernel
theorem dX11_next_249 : decode cX11_next 249 = .ok (.laload, 1) := by decide +kernel
theorem dX11_next_250 : decode cX11_next 250 = .ok (.lmul, 1) := by decide +kernel
theorem dX11_next_251 : decode cX11_next 251 = .ok (.ladd, 1) := by decide +kernel
theorem dX11_next_252 : decode cX11_next 252 = .ok (.lastore, 1) := by decide +kernel
theorem dX11_next_253 : decode cX11_next 253 = .ok (.iinc 5 1, 3) := by decide +kernel
theorem dX11_next_256 : decode cX11_next 256 = .ok (.goto (-43), 3) := by decide +kernel
theorem dX11_next_259 : decode cX11_next 259 = .ok (.iinc 4 1, 3) := by decide +kernel
theorem dX11_next_262 : decode cX11_next 262 = .ok (.goto (-102), 3) := by decide +kernel
theorem dX11_next_265 : decode cX11_next 265 = .ok (.goto 125, 3) := by decide +kernel
theorem dX11_next_268 : decode cX11_next 268 = .ok (.iload_n 1, 1) := by decide +kernel
theorem dX11_next_269 : decode cX11_next 269 = .ok (.i2l, 1) := by decide +kernel
theorem dX11_next_270 : decode cX11_next 270 = .ok (.lstore 4, 2) := by decide +kernel
theorem dX11_next_272 : decode cX11_next 272 = .ok (.iconst 0, 1) := by decide +kernel
theorem dX11_next_273 : decode cX11_next 273 = .ok (.istore 6, 2) := by decide +kernel
theorem dX11_next_275 : decode cX11_next 275 = .ok (.iload 6, 2) := by decide +kernel
theorem dX11_next_277 : decode cX11_next 277 = .ok (.aload_n 0, 1) := by decide +kernel
theorem dX11_next_278 : decode cX11_next 278 = .ok (.getfield 16, 3) := by decide +kernel
theorem dX11_next_281 : decode cX11_next 281 = .ok (.if_icmp .ge 64, 3) := by decide +kernel
theorem dX11_next_284 : decode cX11_next 284 = .ok (.aload_n 0, 1) := by decide +kernel
theorem dX11_next_285 : decode cX11_next 285 = .ok (.getfield 66, 3) := by decide +kernel
theorem dX11_next_288 : decode cX11_next 288 = .ok (.iload 6, 2) := by decide +kernel
theorem dX11_next_290 : decode cX11_next 290 = .ok (.laload, 1) := by decide +kernel
theorem dX11_next_291 : decode cX11_next 291 = .ok (.lload 4, 2) := by decide +kernel
theorem dX11_next_293 : decode cX11_next 293 = .ok (.ladd, 1) := by decide +kernel
theorem dX11_next_294 : decode cX11_next 294 = .ok (.lstore_n 2, 1) := by decide +kernel
theorem dX11_next_295 : decode cX11_next 295 = .ok (.aload_n 0, 1) := by decide +kernel
theorem dX11_next_296 : decode cX11_next 296 = .ok (.getfield 72, 3) := by decide +kernel
theorem dX11_next_299 : decode cX11_next 299 = .ok (.iload 6, 2) := by decide +kernel
theorem dX11_next_301 : decode cX11_next 301 = .ok (.aload_n 0, 1) := by decide +kernel
theorem dX11_next_302 : decode cX11_next 302 = .ok (.lload_n 2, 1) := by decide +kernel
theorem dX11_next_303 : decode cX11_next 303 = .ok (.invokevirtual 129, 3) := by decide +kernel
theorem dX11_next_306 : decode cX11_next 306 = .ok (.iastore, 1) := by decide +kernel
theorem dX11_next_307 : decode cX11_next 307 = .ok (.aload_n 0, 1) := by decide +kernel
theorem dX11_next_308 : decode cX11_next 308 = .ok (.getfield 69, 3) := by decide +kernel
theorem dX11_next_311 : decode cX11_next 311 = .ok (.iload 6, 2) := by decide +kernel
theorem dX11_next_313 : decode cX11_next 313 = .ok (.lload_n 2, 1) := by decide +kernel
theorem dX11_next_314 : decode cX11_next 314 = .ok (.aload_n 0, 1) := by decide +kernel
theorem dX11_next_315 : decode cX11_next 315 = .ok (.getfield 72, 3) := by decide +kernel
theorem dX11_next_318 : decode cX11_next 318 = .ok (.iload 6, 2) := by decide +kernel
theorem dX11_next_320 : decode cX11_next 320 = .ok (.iaload, 1) := by decide +kernel
theorem dX11_next_321 : decode cX11_next 321 = .ok (.i2l, 1) := by decide +kernel
theorem dX11_next_322 : decode cX11_next 322 = .ok (.aload_n 0, 1) := by decide +kernel
theorem dX11_next_323 : decode cX11_next 323 = .ok (.getfield 7, 3) := by decide +kernel
theorem dX11_next_326 : decode cX11_next 326 = .ok (.i2l, 1) := by decide +kernel
theorem dX11_next_327 : decode cX11_next 327 = .ok (.lmul, 1) := by decide +kernel
theorem dX11_next_328 : decode cX11_next 328 = .ok (.lsub, 1) := by decide +kernel
theorem dX11_next_329 : decode cX11_next 329 = .ok (.lastore, 1) := by decide +kernel
theorem dX11_next_330 : decode cX11_next 330 = .ok (.aload_n 0, 1) := by decide +kernel
theorem dX11_next_331 : decode cX11_next 331 = .ok (.getfield 69, 3) := by decide +kernel
theorem dX11_next_334 : decode cX11_next 334 = .ok (.iload 6, 2) := by decide +kernel
theorem dX11_next_336 : decode cX11_next 336 = .ok (.laload, 1) := by decide +kernel
theorem dX11_next_337 : decode cX11_next 337 = .ok (.lstore 4, 2) := by decide +kernel
theorem dX11_next_339 : decode cX11_next 339 = .ok (.iinc 6 1, 3) := by decide +kernel
theorem dX11_next_342 : decode cX11_next 342 = .ok (.goto (-67), 3) := by decide +kernel
theorem dX11_next_345 : decode cX11_next 345 = .ok (.goto 45, 3) := by decide +kernel
theorem dX11_next_348 : decode cX11_next 348 = .ok (.aload_n 0, 1) := by decide +kernel
theorem dX11_next_349 : decode cX11_next 349 = .ok (.getfield 66, 3) := by decide +kernel
theorem dX11_next_352 : decode cX11_next 352 = .ok (.iconst 0, 1) := by decide +kernel
theorem dX11_next_353 : decode cX11_next 353 = .ok (.laload, 1) := by decide +kernel
theorem dX11_next_354 : decode cX11_next 354 = .ok (.iload_n 1, 1) := by decide +kernel
theorem dX11_next_355 : decode cX11_next 355 = .ok (.i2l, 1) := by decide +kernel
theorem dX11_next_356 : decode cX11_next 356 = .ok (.ladd, 1) := by decide +kernel
theorem dX11_next_357 : decode cX11_next 357 = .ok (.lstore_n 2, 1) := by decide +kernel
theorem dX11_next_358 : decode cX11_next 358 = .ok (.aload_n 0, 1) := by decide +kernel
theorem dX11_next_359 : decode cX11_next 359 = .ok (.getfield 72, 3) := by decide +kernel
theorem dX11_next_362 : decode cX11_next 362 = .ok (.iconst 0, 1) := by decide +kernel
theorem dX11_next_363 : decode cX11_next 363 = .ok (.aload_n 0, 1) := by decide +kernel
theorem dX11_next_364 : decode cX11_next 364 = .ok (.lload_n 2, 1) := by decide +kernel
theorem dX11_next_365 : decode cX11_next 365 = .ok (.invokevirtual 129, 3) := by decide +kernel
theorem dX11_next_368 : decode cX11_next 368 = .ok (.iastore, 1) := by decide +kernel
theorem dX11_next_369 : decode cX11_next 369 = .ok (.aload_n 0, 1) := by decide +kernel
theorem dX11_next_370 : decode cX11_next 370 = .ok (.getfield 69, 3) := by decide +kernel
theorem dX11_next_373 : decode cX11_next 373 = .ok (.iconst 0, 1) := by decide +kernel
theorem dX11_next_374 : decode cX11_next 374 = .ok (.lload_n 2, 1) := by decide +kernel
theorem dX11_next_375 : decode cX11_next 375 = .ok (.aload_n 0, 1) := by decide +kernel
theorem dX11_next_376 : decode cX11_next 376 = .ok (.getfield 72, 3) := by decide +kernel
theorem dX11_next_379 : decode cX11_next 379 = .ok (.iconst 0, 1) := by decide +kernel
theorem dX11_next_380 : decode cX11_next 380 = .ok (.iaload, 1) := by decide +kernel
theorem dX11_next_381 : decode cX11_next 381 = .ok (.i2l, 1) := by decide +kernel
theorem dX11_next_382 : decode cX11_next 382 = .ok (.aload_n 0, 1) := by decide +kernel
theorem dX11_next_383 : decode cX11_next 383 = .ok (.getfield 7, 3) := by decide +kernel
theorem dX11_next_386 : decode cX11_next 386 = .ok (.i2l, 1) := by decide +kernel
theorem dX11_next_387 : decode cX11_next 387 = .ok (.lmul, 1) := by decide +kernel
theorem dX11_next_388 : decode cX11_next 388 = .ok (.lsub, 1) := by decide +kernel
theorem dX11_next_389 : decode cX11_next 389 = .ok (.lastore, 1) := by decide +kernel
theorem dX11_next_390 : decode cX11_next 390 = .ok (.iconst 1, 1) := by decide +kernel
theorem dX11_next_391 : decode cX11_next 391 = .ok (.istore 4, 2) := by decide +kernel
theorem dX11_next_393 : decode cX11_next 393 = .ok (.iconst 0, 1) := by decide +kernel
theorem dX11_next_394 : decode cX11_next 394 = .ok (.istore 5, 2) := by decide +kernel
theorem dX11_next_396 : decode cX11_next 396 = .ok (.iload 5, 2) := by decide +kernel
theorem dX11_next_398 : decode cX11_next 398 = .ok (.aload_n 0, 1) := by decide +kernel
theorem dX11_next_399 : decode cX11_next 399 = .ok (.getfield 16, 3) := by decide +kernel
theorem dX11_next_402 : decode cX11_next 402 = .ok (.if_icmp .ge 34, 3) := by decide +kernel
theorem dX11_next_405 : decode cX11_next 405 = .ok (.iload 4, 2) := by decide +kernel
theorem dX11_next_407 : decode cX11_next 407 = .ok (.ifCond .eq 20, 3) := by decide +kernel
theorem dX11_next_410 : decode cX11_next 410 = .ok (.aload_n 0, 1) := by decide +kernel
theorem dX11_next_411 : decode cX11_next 411 = .ok (.getfield 69, 3) := by decide +kernel
theorem dX11_next_414 : decode cX11_next 414 = .ok (.iload 5, 2) := by decide +kernel
theorem dX11_next_416 : decode cX11_next 416 = .ok (.laload, 1) := by decide +kernel
theorem dX11_next_417 : decode cX11_next 417 = .ok (.invokestatic 123, 3) := by decide +kernel
theorem dX11_next_420 : decode cX11_next 420 = .ok (.ifCond .eq 7, 3) := by decide +kernel
theorem dX11_next_423 : decode cX11_next 423 = .ok (.iconst 1, 1) := by decide +kernel
theorem dX11_next_424 : decode cX11_next 424 = .ok (.goto 4, 3) := by decide +kernel
theorem dX11_next_427 : decode cX11_next 427 = .ok (.iconst 0, 1) := by decide +kernel
theorem dX11_next_428 : decode cX11_next 428 = .ok (.istore 4, 2) := by decide +kernel
theorem dX11_next_430 : decode cX11_next 430 = .ok (.iinc 5 1, 3) := by decide +kernel
theorem dX11_next_433 : decode cX11_next 433 = .ok (.goto (-37), 3) := by decide +kernel
theorem dX11_next_436 : decode cX11_next 436 = .ok (.iload 4, 2) := by decide +kernel
theorem dX11_next_438 : decode cX11_next 438 = .ok (.ireturn, 1) := by decide +kernel
theorem dX11_goOn_0 : decode cX11_goOn 0 = .ok (.iconst 0, 1) := by decide +kernel
theorem dX11_goOn_1 : decode cX11_goOn 1 = .ok (.istore_n 1, 1) := by decide +kernel
theorem dX11_goOn_2 : decode cX11_goOn 2 = .ok (.iload_n 1, 1) := by decide +kernel
theorem dX11_goOn_3 : decode cX11_goOn 3 = .ok (.aload_n 0, 1) := by decide +kernel
theorem dX11_goOn_4 : decode cX11_goOn 4 = .ok (.getfield 16, 3) := by decide +kernel
theorem dX11_goOn_7 : decode cX11_goOn 7 = .ok (.if_icmp .ge 21, 3) := by decide +kernel
theorem dX11_goOn_10 : decode cX11_goOn 10 = .ok (.aload_n 0, 1) := by decide +kernel
theorem dX11_goOn_11 : decode cX11_goOn 11 = .ok (.getfield 66, 3) := by decide +kernel
theorem dX11_goOn_14 : decode cX11_goOn 14 = .ok (.iload_n 1, 1) := by decide +kernel
theorem dX11_goOn_15 : decode cX11_goOn 15 = .ok (.aload_n 0, 1) := by decide +kernel
theorem dX11_goOn_16 : decode cX11_goOn 16 = .ok (.getfield 69, 3) := by decide +kernel
theorem dX11_goOn_19 : decode cX11_goOn 19 = .ok (.iload_n 1, 1) := by decide +kernel
theorem dX11_goOn_20 : decode cX11_goOn 20 = .ok (.laload, 1) := by decide +kernel
theorem dX11_goOn_21 : decode cX11_goOn 21 = .ok (.lastore, 1) := by decide +kernel
theorem dX11_goOn_22 : decode cX11_goOn 22 = .ok (.iinc 1 1, 3) := by decide +kernel
theorem dX11_goOn_25 : decode cX11_goOn 25 = .ok (.goto (-23), 3) := by decide +kernel
theorem dX11_goOn_28 : decode cX11_goOn 28 = .ok (.return_, 1) := by decide +kernel
theorem dX11_fromHere_0 : decode cX11_fromHere 0 = .ok (.iconst 0, 1) := by decide +kernel
theorem dX11_fromHere_1 : decode cX11_fromHere 1 = .ok (.istore_n 1, 1) := by decide +kernel
theorem dX11_fromHere_2 : decode cX11_fromHere 2 = .ok (.iload_n 1, 1) := by decide +kernel
theorem dX11_fromHere_3 : decode cX11_fromHere 3 = .ok (.aload_n 0, 1) := by decide +kernel
theorem dX11_fromHere_4 : decode cX11_fromHere 4 = .ok (.getfield 16, 3) := by decide +kernel
theorem dX11_fromHere_7 : decode cX11_fromHere 7 = .ok (.if_icmp .ge 21, 3) := by decide +kernel
theorem dX11_fromHere_10 : decode cX11_fromHere 10 = .ok (.aload_n 0, 1) := by decide +kernel
theorem dX11_fromHere_11 : decode cX11_fromHere 11 = .ok (.getfield 66, 3) := by decide +kernel
theorem dX11_fromHere_14 : decode cX11_fromHere 14 = .ok (.iload_n 1, 1) := by decide +kernel
theorem dX11_fromHere_15 : decode cX11_fromHere 15 = .ok (.aload_n 0, 1) := by decide +kernel
theorem dX11_fromHere_16 : decode cX11_fromHere 16 = .ok (.getfield 38, 3) := by decide +kernel
theorem dX11_fromHere_19 : decode cX11_fromHere 19 = .ok (.iload_n 1, 1) := by decide +kernel
theorem dX11_fromHere_20 : decode cX11_fromHere 20 = .ok (.laload, 1) := by decide +kernel
theorem dX11_fromHere_21 : decode cX11_fromHere 21 = .ok (.lastore, 1) := by decide +kernel
theorem dX11_fromHere_22 : decode cX11_fromHere 22 = .ok (.iinc 1 1, 3) := by decide +kernel
theorem dX11_fromHere_25 : decode cX11_fromHere 25 = .ok (.goto (-23), 3) := by decide +kernel
theorem dX11_fromHere_28 : decode cX11_fromHere 28 = .ok (.return_, 1) := by decide +kernel
theorem dX11_isWish_0 : decode cX11_isWish 0 = .ok (.iload_n 0, 1) := by decide +kernel
theorem dX11_isWish_1 : decode cX11_isWish 1 = .ok (.ldc 133, 2) := by decide +kernel
theorem dX11_isWish_3 : decode cX11_isWish 3 = .ok (.if_icmp .lt 13, 3) := by decide +kernel
theorem dX11_isWish_6 : decode cX11_isWish 6 = .ok (.iload_n 0, 1) := by decide +kernel
theorem dX11_isWish_7 : decode cX11_isWish 7 = .ok (.ldc 134, 2) := by decide +kernel
theorem dX11_isWish_9 : decode cX11_isWish 9 = .ok (.if_icmp .gt 7, 3) := by decide +kernel
theorem dX11_isWish_12 : decode cX11_isWish 12 = .ok (.iconst 1, 1) := by decide +kernel
theorem dX11_isWish_13 : decode cX11_isWish 13 = .ok (.goto 4, 3) := by decide +kernel
theorem dX11_isWish_16 : decode cX11_isWish 16 = .ok (.iconst 0, 1) := by decide +kernel
theorem dX11_isWish_17 : decode cX11_isWish 17 = .ok (.ireturn, 1) := by decide +kernel
set_option maxRecDepth 20000 in
theorem ggX11_done_X11_fromHere : GoodIn wsX11_done wsX11_fromHere := goodIn_r _ [17, 3, 18, 7, 50, 51, 52, 53, 54, 55, 56, 57, 58, 59, 60, 61, 62, 63, 64, 65, 66, 67, 68, 69, 70, 71, 72, 73, 74, 75, 76, 77, 78, 79, 80, 81, 82, 83, 84] (by decide +kernel) (by decide +kernel)
set_option maxRecDepth 20000 in
theorem gX11_done_X11_fromHere : GoodIn wsX11_done (wsV RX11 135 RX11 yX11_fromHere wsX11_fromHere) := goodIn_app (goodIn_of _ (by decide +kernel)) ggX11_done_X11_fromHere
set_option maxRecDepth 20000 in
theorem ggX11_done_X11_next : GoodIn wsX11_done wsX11_next := goodIn_r _ [22, 2, 23, 18, 1, 8, 24, 25, 3, 26, 27, 28, 29, 30, 31, 32, 16, 33, 34, 35, 36, 37, 38, 39, 40, 50, 51, 52, 53, 54, 55, 56, 57, 58, 59, 60, 61, 62, 63, 64, 65, 66, 67, 68, 69, 70, 71, 72, 73, 74, 75, 76, 77, 78, 79, 80, 81, 82, 83, 84] (by decide +kernel) (by decide +kernel)
set_option maxRecDepth 20000 in
theorem gX11_done_X11_next : GoodIn wsX11_done (wsV RX11 138 RX11 yX11_next wsX11_next) := goodIn_app (goodIn_of _ (by decide +kernel)) ggX11_done_X11_next
set_option maxRecDepth 20000 in
theorem ggX11_done_X11_turn : GoodIn wsX11_done wsX11_turn := goodIn_r _ [44, 45, 46, 47, 48, 49, 50, 51, 52, 53, 54, 55, 56, 57, 58, 59, 60, 61, 62, 63, 64, 65, 66, 67, 68, 69, 70, 71, 72, 73, 74, 75, 76, 77, 78, 79, 80, 81, 82, 83, 84] (by decide +kernel) (by decide +kernel)
set_option maxRecDepth 20000 in
theorem gX11_done_X11_turn : GoodIn wsX11_done (wsV RX11 141 RX11 yX11_turn wsX11_turn) := goodIn_app (goodIn_of _ (by decide +kernel)) ggX11_done_X11_turn
theorem dX11_done_0 : decode cX11_done 0 = .ok (.aload_n 0, 1) := by decide +kernel
theorem dX11_done_1 : decode cX11_done 1 = .ok (.invokevirtual 135, 3) := by decide +kernel
theorem dX11_done_4 : decode cX11_done 4 = .ok (.aload_n 0, 1) := by decide +kernel
theorem dX11_done_5 : decode cX11_done 5 = .ok (.iload_n 1, 1) := by decide +kernel
theorem dX11_done_6 : decode cX11_done 6 = .ok (.invokevirtual 138, 3) := by decide +kernel
theorem dX11_done_9 : decode cX11_done 9 = .ok (.ifCond .ne 5, 3) := by decide +kernel
theorem dX11_done_12 : decode cX11_done 12 = .ok (.iconst 0, 1) := by decide +kernel
theorem dX11_done_13 : decode cX11_done 13 = .ok (.ireturn, 1) := by decide +kernel
theorem dX11_done_14 : decode cX11_done 14 = .ok (.aload_n 0, 1) := by decide +kernel
theorem dX11_done_15 : decode cX11_done 15 = .ok (.getfield 72, 3) := by decide +kernel
theorem dX11_done_18 : decode cX11_done 18 = .ok (.iconst 0, 1) := by decide +kernel
theorem dX11_done_19 : decode cX11_done 19 = .ok (.iaload, 1) := by decide +kernel
theorem dX11_done_20 : decode cX11_done 20 = .ok (.istore_n 2, 1) := by decide +kernel
theorem dX11_done_21 : decode cX11_done 21 = .ok (.aload_n 0, 1) := by decide +kernel
theorem dX11_done_22 : decode cX11_done 22 = .ok (.getfield 103, 3) := by decide +kernel
theorem dX11_done_25 : decode cX11_done 25 = .ok (.iconst 3, 1) := by decide +kernel
theorem dX11_done_26 : decode cX11_done 26 = .ok (.if_icmp .ne 73, 3) := by decide +kernel
theorem dX11_done_29 : decode cX11_done 29 = .ok (.aload_n 0, 1) := by decide +kernel
theorem dX11_done_30 : decode cX11_done 30 = .ok (.getfield 16, 3) := by decide +kernel
theorem dX11_done_33 : decode cX11_done 33 = .ok (.iconst 3, 1) := by decide +kernel
theorem dX11_done_34 : decode cX11_done 34 = .ok (.if_icmp .ne 12, 3) := by decide +kernel
theorem dX11_done_37 : decode cX11_done 37 = .ok (.aload_n 0, 1) := by decide +kernel
theorem dX11_done_38 : decode cX11_done 38 = .ok (.getfield 72, 3) := by decide +kernel
theorem dX11_done_41 : decode cX11_done 41 = .ok (.iconst 2, 1) := by decide +kernel
theorem dX11_done_42 : decode cX11_done 42 = .ok (.iaload, 1) := by decide +kernel
theorem dX11_done_43 : decode cX11_done 43 = .ok (.goto 4, 3) := by decide +kernel
theorem dX11_done_46 : decode cX11_done 46 = .ok (.iconst 0, 1) := by decide +kernel
theorem dX11_done_47 : decode cX11_done 47 = .ok (.istore_n 3, 1) := by decide +kernel
theorem dX11_done_48 : decode cX11_done 48 = .ok (.iload_n 2, 1) := by decide +kernel
theorem dX11_done_49 : decode cX11_done 49 = .ok (.aload_n 0, 1) := by decide +kernel
theorem dX11_done_50 : decode cX11_done 50 = .ok (.getfield 72, 3) := by decide +kernel
theorem dX11_done_53 : decode cX11_done 53 = .ok (.iconst 1, 1) := by decide +kernel
theorem dX11_done_54 : decode cX11_done 54 = .ok (.iaload, 1) := by decide +kernel
theorem dX11_done_55 : decode cX11_done 55 = .ok (.aload_n 0, 1) := by decide +kernel
theorem dX11_done_56 : decode cX11_done 56 = .ok (.getfield 87, 3) := by decide +kernel
theorem dX11_done_59 : decode cX11_done 59 = .ok (.isub, 1) := by decide +kernel
theorem dX11_done_60 : decode cX11_done 60 = .ok (.iload_n 3, 1) := by decide +kernel
theorem dX11_done_61 : decode cX11_done 61 = .ok (.iadd, 1) := by decide +kernel
theorem dX11_done_62 : decode cX11_done 62 = .ok (.iconst 2, 1) := by decide +kernel
theorem dX11_done_63 : decode cX11_done 63 = .ok (.aload_n 0, 1) := by decide +kernel
theorem dX11_done_64 : decode cX11_done 64 = .ok (.getfield 90, 3) := by decide +kernel
theorem dX11_done_67 : decode cX11_done 67 = .ok (.imul, 1) := by decide +kernel
theorem dX11_done_68 : decode cX11_done 68 = .ok (.isub, 1) := by decide +kernel
theorem dX11_done_69 : decode cX11_done 69 = .ok (.aload_n 0, 1) := by decide +kernel
theorem dX11_done_70 : decode cX11_done 70 = .ok (.getfield 93, 3) := by decide +kernel
theorem dX11_done_73 : decode cX11_done 73 = .ok (.iadd, 1) := by decide +kernel
theorem dX11_done_74 : decode cX11_done 74 = .ok (.iadd, 1) := by decide +kernel
theorem dX11_done_75 : decode cX11_done 75 = .ok (.istore_n 2, 1) := by decide +kernel
theorem dX11_done_76 : decode cX11_done 76 = .ok (.aload_n 0, 1) := by decide +kernel
theorem dX11_done_77 : decode cX11_done 77 = .ok (.aload_n 0, 1) := by decide +kernel
theorem dX11_done_78 : decode cX11_done 78 = .ok (.getfield 72, 3) := by decide +kernel
theorem dX11_done_81 : decode cX11_done 81 = .ok (.iconst 1, 1) := by decide +kernel
theorem dX11_done_82 : decode cX11_done 82 = .ok (.iaload, 1) := by decide +kernel
theorem dX11_done_83 : decode cX11_done 83 = .ok (.putfield 87, 3) := by decide +kernel
theorem dX11_done_86 : decode cX11_done 86 = .ok (.aload_n 0, 1) := by decide +kernel
theorem dX11_done_87 : decode cX11_done 87 = .ok (.aload_n 0, 1) := by decide +kernel
theorem dX11_done_88 : decode cX11_done 88 = .ok (.getfield 90, 3) := by decide +kernel
theorem dX11_done_91 : decode cX11_done 91 = .ok (.putfield 93, 3) := by decide +kernel
theorem dX11_done_94 : decode cX11_done 94 = .ok (.aload_n 0, 1) := by decide +kernel
theorem dX11_done_95 : decode cX11_done 95 = .ok (.iload_n 3, 1) := by decide +kernel
theorem dX11_done_96 : decode cX11_done 96 = .ok (.putfield 90, 3) := by decide +kernel
theorem dX11_done_99 : decode cX11_done 99 = .ok (.iconst 0, 1) := by decide +kernel
theorem dX11_done_100 : decode cX11_done 100 = .ok (.istore_n 3, 1) := by decide +kernel
theorem dX11_done_101 : decode cX11_done 101 = .ok (.iload_n 3, 1) := by decide +kernel
theorem dX11_done_102 : decode cX11_done 102 = .ok (.aload_n 0, 1) := by decide +kernel
theorem dX11_done_103 : decode cX11_done 103 = .ok (.getfield 16, 3) := by decide +kernel
theorem dX11_done_106 : decode cX11_done 106 = .ok (.if_icmp .ge 21, 3) := by decide +kernel
theorem dX11_done_109 : decode cX11_done 109 = .ok (.aload_n 0, 1) := by decide +kernel
theorem dX11_done_110 : decode cX11_done 110 = .ok (.getfield 38, 3) := by decide +kernel
theorem dX11_done_113 : decode cX11_done 113 = .ok (.iload_n 3, 1) := by decide +kernel
theorem dX11_done_114 : decode cX11_done 114 = .ok (.aload_n 0, 1) := by decide +kernel
theorem dX11_done_115 : decode cX11_done 115 = .ok (.getfield 69, 3) := by decide +kernel
theorem dX11_done_118 : decode cX11_done 118 = .ok (.iload_n 3, 1) := by decide +kernel
theorem dX11_done_119 : decode cX11_done 119 = .ok (.laload, 1) := by decide +kernel
theorem dX11_done_120 : decode cX11_done 120 = .ok (.lastore, 1) := by decide +kernel
theorem dX11_done_121 : decode cX11_done 121 = .ok (.iinc 3 1, 3) := by decide +kernel
theorem dX11_done_124 : decode cX11_done 124 = .ok (.goto (-23), 3) := by decide +kernel
theorem dX11_done_127 : decode cX11_done 127 = .ok (.aload_n 0, 1) := by decide +kernel
theorem dX11_done_128 : decode cX11_done 128 = .ok (.getfield 54, 3) := by decide +kernel
theorem dX11_done_131 : decode cX11_done 131 = .ok (.aload_n 0, 1) := by decide +kernel
theorem dX11_done_132 : decode cX11_done 132 = .ok (.getfield 81, 3) := by decide +kernel
theorem dX11_done_135 : decode cX11_done 135 = .ok (.sipush 256, 3) := by decide +kernel
theorem dX11_done_138 : decode cX11_done 138 = .ok (.irem, 1) := by decide +kernel
theorem dX11_done_139 : decode cX11_done 139 = .ok (.iload_n 2, 1) := by decide +kernel
theorem dX11_done_140 : decode cX11_done 140 = .ok (.iastore, 1) := by decide +kernel
theorem dX11_done_141 : decode cX11_done 141 = .ok (.aload_n 0, 1) := by decide +kernel
theorem dX11_done_142 : decode cX11_done 142 = .ok (.getfield 57, 3) := by decide +kernel
theorem dX11_done_145 : decode cX11_done 145 = .ok (.aload_n 0, 1) := by decide +kernel
theorem dX11_done_146 : decode cX11_done 146 = .ok (.getfield 81, 3) := by decide +kernel
theorem dX11_done_149 : decode cX11_done 149 = .ok (.sipush 256, 3) := by decide +kernel
theorem dX11_done_152 : decode cX11_done 152 = .ok (.irem, 1) := by decide +kernel
theorem dX11_done_153 : decode cX11_done 153 = .ok (.iload_n 1, 1) := by decide +kernel
theorem dX11_done_154 : decode cX11_done 154 = .ok (.iastore, 1) := by decide +kernel
theorem dX11_done_155 : decode cX11_done 155 = .ok (.aload_n 0, 1) := by decide +kernel
theorem dX11_done_156 : decode cX11_done 156 = .ok (.getfield 60, 3) := by decide +kernel
theorem dX11_done_159 : decode cX11_done 159 = .ok (.aload_n 0, 1) := by decide +kernel
theorem dX11_done_160 : decode cX11_done 160 = .ok (.getfield 81, 3) := by decide +kernel
theorem dX11_done_163 : decode cX11_done 163 = .ok (.sipush 256, 3) := by decide +kernel
theorem dX11_done_166 : decode cX11_done 166 = .ok (.irem, 1) := by decide +kernel
theorem dX11_done_167 : decode cX11_done 167 = .ok (.aload_n 0, 1) := by decide +kernel
theorem dX11_done_168 : decode cX11_done 168 = .ok (.getfield 38, 3) := by decide +kernel
theorem dX11_done_171 : decode cX11_done 171 = .ok (.iconst 0, 1) := by decide +kernel
theorem dX11_done_172 : decode cX11_done 172 = .ok (.laload, 1) := by decide +kernel
theorem dX11_done_173 : decode cX11_done 173 = .ok (.lastore, 1) := by decide +kernel
theorem dX11_done_174 : decode cX11_done 174 = .ok (.aload_n 0, 1) := by decide +kernel
theorem dX11_done_175 : decode cX11_done 175 = .ok (.dup, 1) := by decide +kernel
theorem dX11_done_176 : decode cX11_done 176 = .ok (.getfield 81, 3) := by decide +kernel
theorem dX11_done_179 : decode cX11_done 179 = .ok (.iconst 1, 1) := by decide +kernel
theorem dX11_done_180 : decode cX11_done 180 = .ok (.iadd, 1) := by decide +kernel
theorem dX11_done_181 : decode cX11_done 181 = .ok (.putfield 81, 3) := by decide +kernel
theorem dX11_done_184 : decode cX11_done 184 = .ok (.aload_n 0, 1) := by decide +kernel
theorem dX11_done_185 : decode cX11_done 185 = .ok (.getfield 103, 3) := by decide +kernel
theorem dX11_done_188 : decode cX11_done 188 = .ok (.iconst 4, 1) := by decide +kernel
theorem dX11_done_189 : decode cX11_done 189 = .ok (.if_icmp .ne 8, 3) := by decide +kernel
theorem dX11_done_192 : decode cX11_done 192 = .ok (.aload_n 0, 1) := by decide +kernel
theorem dX11_done_193 : decode cX11_done 193 = .ok (.iload_n 2, 1) := by decide +kernel
theorem dX11_done_194 : decode cX11_done 194 = .ok (.invokevirtual 141, 3) := by decide +kernel
theorem dX11_done_197 : decode cX11_done 197 = .ok (.iconst 1, 1) := by decide +kernel
theorem dX11_done_198 : decode cX11_done 198 = .ok (.ireturn, 1) := by decide +kernel
theorem dX11_turn_0 : decode cX11_turn 0 = .ok (.iload_n 1, 1) := by decide +kernel
theorem dX11_turn_1 : decode cX11_turn 1 = .ok (.ifCond .ge 7, 3) := by decide +kernel
theorem dX11_turn_4 : decode cX11_turn 4 = .ok (.iconst 0, 1) := by decide +kernel
theorem dX11_turn_5 : decode cX11_turn 5 = .ok (.goto 19, 3) := by decide +kernel
theorem dX11_turn_8 : decode cX11_turn 8 = .ok (.iload_n 1, 1) := by decide +kernel
theorem dX11_turn_9 : decode cX11_turn 9 = .ok (.aload_n 0, 1) := by decide +kernel
theorem dX11_turn_10 : decode cX11_turn 10 = .ok (.getfield 109, 3) := by decide +kernel
theorem dX11_turn_13 : decode cX11_turn 13 = .ok (.if_icmp .le 10, 3) := by decide +kernel
theorem dX11_turn_16 : decode cX11_turn 16 = .ok (.aload_n 0, 1) := by decide +kernel
theorem dX11_turn_17 : decode cX11_turn 17 = .ok (.getfield 109, 3) := by decide +kernel
theorem dX11_turn_20 : decode cX11_turn 20 = .ok (.goto 4, 3) := by decide +kernel
theorem dX11_turn_23 : decode cX11_turn 23 = .ok (.iload_n 1, 1) := by decide +kernel
theorem dX11_turn_24 : decode cX11_turn 24 = .ok (.istore_n 2, 1) := by decide +kernel
theorem dX11_turn_25 : decode cX11_turn 25 = .ok (.iconst 0, 1) := by decide +kernel
theorem dX11_turn_26 : decode cX11_turn 26 = .ok (.istore_n 3, 1) := by decide +kernel
theorem dX11_turn_27 : decode cX11_turn 27 = .ok (.iload_n 3, 1) := by decide +kernel
theorem dX11_turn_28 : decode cX11_turn 28 = .ok (.aload_n 0, 1) := by decide +kernel
theorem dX11_turn_29 : decode cX11_turn 29 = .ok (.getfield 109, 3) := by decide +kernel
theorem dX11_turn_32 : decode cX11_turn 32 = .ok (.if_icmp .ge 16, 3) := by decide +kernel
theorem dX11_turn_35 : decode cX11_turn 35 = .ok (.aload_n 0, 1) := by decide +kernel
theorem dX11_turn_36 : decode cX11_turn 36 = .ok (.getfield 48, 3) := by decide +kernel
theorem dX11_turn_39 : decode cX11_turn 39 = .ok (.iload_n 3, 1) := by decide +kernel
theorem dX11_turn_40 : decode cX11_turn 40 = .ok (.iconst 0, 1) := by decide +kernel
theorem dX11_turn_41 : decode cX11_turn 41 = .ok (.iastore, 1) := by decide +kernel
theorem dX11_turn_42 : decode cX11_turn 42 = .ok (.iinc 3 1, 3) := by decide +kernel
theorem dX11_turn_45 : decode cX11_turn 45 = .ok (.goto (-18), 3) := by decide +kernel
theorem dX11_turn_48 : decode cX11_turn 48 = .ok (.iconst 0, 1) := by decide +kernel
theorem dX11_turn_49 : decode cX11_turn 49 = .ok (.istore_n 3, 1) := by decide +kernel
theorem dX11_turn_50 : decode cX11_turn 50 = .ok (.iload_n 3, 1) := by decide +kernel
theorem dX11_turn_51 : decode cX11_turn 51 = .ok (.iload_n 2, 1) := by decide +kernel
theorem dX11_turn_52 : decode cX11_turn 52 = .ok (.if_icmp .ge 103, 3) := by decide +kernel
theorem dX11_turn_55 : decode cX11_turn 55 = .ok (.aload_n 0, 1) := by decide +kernel
theorem dX11_turn_56 : decode cX11_turn 56 = .ok (.getfield 106, 3) := by decide +kernel
theorem dX11_turn_59 : decode cX11_turn 59 = .ok (.ifCond .ne 17, 3) := by decide +kernel
theorem dX11_turn_62 : decode cX11_turn 62 = .ok (.aload_n 0, 1) := by decide +kernel
theorem dX11_turn_63 : decode cX11_turn 63 = .ok (.getfield 84, 3) := by decide +kernel
theorem dX11_turn_66 : decode cX11_turn 66 = .ok (.iload_n 3, 1) := by decide +kernel
theorem dX11_turn_67 : decode cX11_turn 67 = .ok (.iadd, 1) := by decide +kernel
theorem dX11_turn_68 : decode cX11_turn 68 = .ok (.aload_n 0, 1) := by decide +kernel
theorem dX11_turn_69 : decode cX11_turn 69 = .ok (.getfield 109, 3) := by decide +kernel
theorem dX11_turn_72 : decode cX11_turn 72 = .ok (.irem, 1) := by decide +kernel
theorem dX11_turn_73 : decode cX11_turn 73 = .ok (.goto 4, 3) := by decide +kernel
theorem dX11_turn_76 : decode cX11_turn 76 = .ok (.iconst (-1), 1) := by decide +kernel
theorem dX11_turn_77 : decode cX11_turn 77 = .ok (.istore 4, 2) := by decide +kernel
theorem dX11_turn_79 : decode cX11_turn 79 = .ok (.iconst 0, 1) := by decide +kernel
theorem dX11_turn_80 : decode cX11_turn 80 = .ok (.istore 5, 2) := by decide +kernel
theorem dX11_turn_82 : decode cX11_turn 82 = .ok (.iload 5, 2) := by decide +kernel
theorem dX11_turn_84 : decode cX11_turn 84 = .ok (.aload_n 0, 1) := by decide +kernel
theorem dX11_turn_85 : decode cX11_turn 85 = .ok (.getfield 109, 3) := by decide +kernel
theorem dX11_turn_88 : decode cX11_turn 88 = .ok (.if_icmp .ge 53, 3) := by decide +kernel
theorem dX11_turn_91 : decode cX11_turn 91 = .ok (.aload_n 0, 1) := by decide +kernel
theorem dX11_turn_92 : decode cX11_turn 92 = .ok (.getfield 106, 3) := by decide +kernel
theorem dX11_turn_95 : decode cX11_turn 95 = .ok (.iconst 1, 1) := by decide +kernel
theorem dX11_turn_96 : decode cX11_turn 96 = .ok (.if_icmp .ne 45, 3) := by decide +kernel
theorem dX11_turn_99 : decode cX11_turn 99 = .ok (.aload_n 0, 1) := by decide +kernel
theorem dX11_turn_100 : decode cX11_turn 100 = .ok (.getfield 48, 3) := by decide +kernel
theorem dX11_turn_103 : decode cX11_turn 103 = .ok (.iload 5, 2) := by decide +kernel
theorem dX11_turn_105 : decode cX11_turn 105 = .ok (.iaload, 1) := by decide +kernel
theorem dX11_turn_106 : decode cX11_turn 106 = .ok (.ifCond .ne 29, 3) := by decide +kernel
theorem dX11_turn_109 : decode cX11_turn 109 = .ok (.iload 4, 2) := by decide +kernel
theorem dX11_turn_111 : decode cX11_turn 111 = .ok (.ifCond .lt 20, 3) := by decide +kernel
theorem dX11_turn_114 : decode cX11_turn 114 = .ok (.aload_n 0, 1) := by decide +kernel
theorem dX11_turn_115 : decode cX11_turn 115 = .ok (.getfield 51, 3) := by decide +kernel
theorem dX11_turn_118 : decode cX11_turn 118 = .ok (.iload 5, 2) := by decide +kernel
theorem dX11_turn_120 : decode cX11_turn 120 = .ok (.iaload, 1) := by decide +kernel
theorem dX11_turn_121 : decode cX11_turn 121 = .ok (.aload_n 0, 1) := by decide +kernel
theorem dX11_turn_122 : decode cX11_turn 122 = .ok (.getfield 51, 3) := by decide +kernel
theorem dX11_turn_125 : decode cX11_turn 125 = .ok (.iload 4, 2) := by decide +kernel
theorem dX11_turn_127 : decode cX11_turn 127 = .ok (.iaload, 1) := by decide +kernel
theorem dX11_turn_128 : decode cX11_turn 128 = .ok (.if_icmp .ge 7, 3) := by decide +kernel
theorem dX11_turn_131 : decode cX11_turn 131 = .ok (.iload 5, 2) := by decide +kernel
theorem dX11_turn_133 : decode cX11_turn 133 = .ok (.istore 4, 2) := by decide +kernel
theorem dX11_turn_135 : decode cX11_turn 135 = .ok (.iinc 5 1, 3) := by decide +kernel
theorem dX11_turn_138 : decode cX11_turn 138 = .ok (.goto (-56), 3) := by decide +kernel
theorem dX11_turn_141 : decode cX11_turn 141 = .ok (.aload_n 0, 1) := by decide +kernel
theorem dX11_turn_142 : decode cX11_turn 142 = .ok (.getfield 48, 3) := by decide +kernel
theorem dX11_turn_145 : decode cX11_turn 145 = .ok (.iload 4, 2) := by decide +kernel
theorem dX11_turn_147 : decode cX11_turn 147 = .ok (.iconst 1, 1) := by decide +kernel
theorem dX11_turn_148 : decode cX11_turn 148 = .ok (.iastore, 1) := by decide +kernel
theorem dX11_turn_149 : decode cX11_turn 149 = .ok (.iinc 3 1, 3) := by decide +kernel
theorem dX11_turn_152 : decode cX11_turn 152 = .ok (.goto (-102), 3) := by decide +kernel
theorem dX11_turn_155 : decode cX11_turn 155 = .ok (.iconst 0, 1) := by decide +kernel
theorem dX11_turn_156 : decode cX11_turn 156 = .ok (.istore_n 3, 1) := by decide +kernel
theorem dX11_turn_157 : decode cX11_turn 157 = .ok (.iload_n 3, 1) := by decide +kernel
theorem dX11_turn_158 : decode cX11_turn 158 = .ok (.aload_n 0, 1) := by decide +kernel
theorem dX11_turn_159 : decode cX11_turn 159 = .ok (.getfield 109, 3) := by decide +kernel
theorem dX11_turn_162 : decode cX11_turn 162 = .ok (.if_icmp .ge 24, 3) := by decide +kernel
theorem dX11_turn_165 : decode cX11_turn 165 = .ok (.aload_n 0, 1) := by decide +kernel
theorem dX11_turn_166 : decode cX11_turn 166 = .ok (.getfield 51, 3) := by decide +kernel
theorem dX11_turn_169 : decode cX11_turn 169 = .ok (.iload_n 3, 1) := by decide +kernel
theorem dX11_turn_170 : decode cX11_turn 170 = .ok (.dup2, 1) := by decide +kernel
theorem dX11_turn_171 : decode cX11_turn 171 = .ok (.iaload, 1) := by decide +kernel
theorem dX11_turn_172 : decode cX11_turn 172 = .ok (.aload_n 0, 1) := by decide +kernel
theorem dX11_turn_173 : decode cX11_turn 173 = .ok (.getfield 48, 3) := by decide +kernel
theorem dX11_turn_176 : decode cX11_turn 176 = .ok (.iload_n 3, 1) := by decide +kernel
theorem dX11_turn_177 : decode cX11_turn 177 = .ok (.iaload, 1) := by decide +kernel
theorem dX11_turn_178 : decode cX11_turn 178 = .ok (.iadd, 1) := by decide +kernel
theorem dX11_turn_179 : decode cX11_turn 179 = .ok (.iastore, 1) := by decide +kernel
theorem dX11_turn_180 : decode cX11_turn 180 = .ok (.iinc 3 1, 3) := by decide +kernel
theorem dX11_turn_183 : decode cX11_turn 183 = .ok (.goto (-26), 3) := by decide +kernel
theorem dX11_turn_186 : decode cX11_turn 186 = .ok (.aload_n 0, 1) := by decide +kernel
theorem dX11_turn_187 : decode cX11_turn 187 = .ok (.getfield 106, 3) := by decide +kernel
theorem dX11_turn_190 : decode cX11_turn 190 = .ok (.ifCond .ne 18, 3) := by decide +kernel
theorem dX11_turn_193 : decode cX11_turn 193 = .ok (.aload_n 0, 1) := by decide +kernel
theorem dX11_turn_194 : decode cX11_turn 194 = .ok (.aload_n 0, 1) := by decide +kernel
theorem dX11_turn_195 : decode cX11_turn 195 = .ok (.getfield 84, 3) := by decide +kernel
theorem dX11_turn_198 : decode cX11_turn 198 = .ok (.iload_n 2, 1) := by decide +kernel
theorem dX11_turn_199 : decode cX11_turn 199 = .ok (.iadd, 1) := by decide +kernel
theorem dX11_turn_200 : decode cX11_turn 200 = .ok (.aload_n 0, 1) := by decide +kernel
theorem dX11_turn_201 : decode cX11_turn 201 = .ok (.getfield 109, 3) := by decide +kernel
theorem dX11_turn_204 : decode cX11_turn 204 = .ok (.irem, 1) := by decide +kernel
theorem dX11_turn_205 : decode cX11_turn 205 = .ok (.putfield 84, 3) := by decide +kernel
theorem dX11_turn_208 : decode cX11_turn 208 = .ok (.return_, 1) := by decide +kernel
set_option maxRecDepth 20000 in
theorem ggX11_tick_X11_isWish : GoodIn wsX11_tick wsX11_isWish := goodIn_r _ [7, 8, 9] (by decide +kernel) (by decide +kernel)
set_option maxRecDepth 20000 in
theorem gX11_tick_X11_isWish : GoodIn wsX11_tick (va_wsS RX11 145 yX11_isWish wsX11_isWish) := goodIn_app (goodIn_of _ (by decide +kernel)) ggX11_tick_X11_isWish
set_option maxRecDepth 20000 in
theorem ggX11_tick_X11_done : GoodIn wsX11_tick wsX11_done := goodIn_r _ [13, 14, 15, 16, 17, 18, 19, 20, 21, 1, 2, 22, 23, 24, 25, 26, 6, 27, 28, 29, 30, 31, 32, 33, 34, 35, 36, 37, 38, 39, 40, 41, 42, 43, 44, 45, 46, 47, 48, 49, 50, 51, 52, 53, 54, 55, 56, 57, 58, 59, 60, 61, 62, 63, 64, 65, 66, 67, 68, 69, 70, 71, 72, 73, 74, 75, 76, 77, 78, 79, 80, 81, 82, 83, 84, 85, 86, 87, 88, 89, 90, 91, 92, 93, 94] (by decide +kernel) (by decide +kernel)
set_option maxRecDepth 20000 in
theorem gX11_tick_X11_done : GoodIn wsX11_tick (wsV RX11 148 RX11 yX11_done wsX11_done) := goodIn_app (goodIn_of _ (by decide +kernel)) ggX11_tick_X11_done
theorem dX11_tick_0 : decode cX11_tick 0 = .ok (.iload_n 1, 1) := by decide +kernel
theorem dX11_tick_1 : decode cX11_tick 1 = .ok (.invokestatic 145, 3) := by decide +kernel
theorem dX11_tick_4 : decode cX11_tick 4 = .ok (.ifCond .eq 29, 3) := by decide +kernel
theorem dX11_tick_7 : decode cX11_tick 7 = .ok (.aload_n 0, 1) := by decide +kernel
theorem dX11_tick_8 : decode cX11_tick 8 = .ok (.iload_n 1, 1) := by decide +kernel
theorem dX11_tick_9 : decode cX11_tick 9 = .ok (.invokevirtual 148, 3) := by decide +kernel
theorem dX11_tick_12 : decode cX11_tick 12 = .ok (.ifCond .eq 21, 3) := by decide +kernel
theorem dX11_tick_15 : decode cX11_tick 15 = .ok (.aload_n 0, 1) := by decide +kernel
theorem dX11_tick_16 : decode cX11_tick 16 = .ok (.getfield 54, 3) := by decide +kernel
theorem dX11_tick_19 : decode cX11_tick 19 = .ok (.aload_n 0, 1) := by decide +kernel
theorem dX11_tick_20 : decode cX11_tick 20 = .ok (.getfield 81, 3) := by decide +kernel
theorem dX11_tick_23 : decode cX11_tick 23 = .ok (.iconst 1, 1) := by decide +kernel
theorem dX11_tick_24 : decode cX11_tick 24 = .ok (.isub, 1) := by decide +kernel
theorem dX11_tick_25 : decode cX11_tick 25 = .ok (.sipush 256, 3) := by decide +kernel
theorem dX11_tick_28 : decode cX11_tick 28 = .ok (.irem, 1) := by decide +kernel
theorem dX11_tick_29 : decode cX11_tick 29 = .ok (.iaload, 1) := by decide +kernel
theorem dX11_tick_30 : decode cX11_tick 30 = .ok (.goto 5, 3) := by decide +kernel
theorem dX11_tick_33 : decode cX11_tick 33 = .ok (.ldc 151, 2) := by decide +kernel
theorem dX11_tick_35 : decode cX11_tick 35 = .ok (.ireturn, 1) := by decide +kernel
set_option maxRecDepth 20000 in
theorem ggX11_run_X11_isWish : GoodIn wsX11_run wsX11_isWish := goodIn_r _ [4, 5, 6] (by decide +kernel) (by decide +kernel)
set_option maxRecDepth 20000 in
theorem gX11_run_X11_isWish : GoodIn wsX11_run (va_wsS RX11 145 yX11_isWish wsX11_isWish) := goodIn_app (goodIn_of _ (by decide +kernel)) ggX11_run_X11_isWish
set_option maxRecDepth 20000 in
theorem ggX11_run_X11_done : GoodIn wsX11_run wsX11_done := goodIn_r _ [10, 11, 12, 13, 14, 15, 16, 17, 18, 19, 20, 21, 22, 23, 24, 25, 3, 26, 27, 28, 29, 30, 31, 32, 33, 34, 35, 36, 37, 38, 39, 40, 41, 42, 43, 44, 45, 46, 47, 48, 49, 50, 51, 52, 53, 54, 55, 56, 57, 58, 59, 60, 61, 62, 63, 64, 65, 66, 67, 68, 69, 70, 71, 72, 73, 74, 75, 76, 77, 78, 79, 80, 81, 82, 83, 84, 85, 86, 87, 88, 89, 90, 91, 92, 93] (by decide +kernel) (by decide +kernel)
set_option maxRecDepth 20000 in
theorem gX11_run_X11_done : GoodIn wsX11_run (wsV RX11 148 RX11 yX11_done wsX11_done) := goodIn_app (goodIn_of _ (by decide +kernel)) ggX11_run_X11_done
theorem dX11_run_0 : decode cX11_run 0 = .ok (.iload_n 1, 1) := by decide +kernel
theorem dX11_run_1 : decode cX11_run 1 = .ok (.ifCond .lt 17, 3) := by decide +kernel
theorem dX11_run_4 : decode cX11_run 4 = .ok (.iload_n 1, 1) := by decide +kernel
theorem dX11_run_5 : decode cX11_run 5 = .ok (.sipush 10000, 3) := by decide +kernel
theorem dX11_run_8 : decode cX11_run 8 = .ok (.if_icmp .gt 10, 3) := by decide +kernel
theorem dX11_run_11 : decode cX11_run 11 = .ok (.iload_n 2, 1) := by decide +kernel
theorem dX11_run_12 : decode cX11_run 12 = .ok (.invokestatic 145, 3) := by decide +kernel
theorem dX11_run_15 : decode cX11_run 15 = .ok (.ifCond .ne 5, 3) := by decide +kernel
theorem dX11_run_18 : decode cX11_run 18 = .ok (.iconst (-1), 1) := by decide +kernel
theorem dX11_run_19 : decode cX11_run 19 = .ok (.ireturn, 1) := by decide +kernel
theorem dX11_run_20 : decode cX11_run 20 = .ok (.iconst 0, 1) := by decide +kernel
theorem dX11_run_21 : decode cX11_run 21 = .ok (.istore_n 3, 1) := by decide +kernel
theorem dX11_run_22 : decode cX11_run 22 = .ok (.iload_n 3, 1) := by decide +kernel
theorem dX11_run_23 : decode cX11_run 23 = .ok (.iload_n 1, 1) := by decide +kernel
theorem dX11_run_24 : decode cX11_run 24 = .ok (.if_icmp .ge 17, 3) := by decide +kernel
theorem dX11_run_27 : decode cX11_run 27 = .ok (.aload_n 0, 1) := by decide +kernel
theorem dX11_run_28 : decode cX11_run 28 = .ok (.iload_n 2, 1) := by decide +kernel
theorem dX11_run_29 : decode cX11_run 29 = .ok (.invokevirtual 148, 3) := by decide +kernel
theorem dX11_run_32 : decode cX11_run 32 = .ok (.ifCond .eq 9, 3) := by decide +kernel
theorem dX11_run_35 : decode cX11_run 35 = .ok (.iinc 3 1, 3) := by decide +kernel
theorem dX11_run_38 : decode cX11_run 38 = .ok (.goto (-16), 3) := by decide +kernel
theorem dX11_run_41 : decode cX11_run 41 = .ok (.iload_n 3, 1) := by decide +kernel
theorem dX11_run_42 : decode cX11_run 42 = .ok (.ireturn, 1) := by decide +kernel
set_option maxRecDepth 20000 in
theorem ggX11_sum_X11_isSum : GoodIn wsX11_sum wsX11_isSum := goodIn_r _ [6, 7, 8, 9, 10, 11, 12, 13, 14, 15, 16, 17, 18, 19, 20, 21, 22, 23, 24, 25, 26, 27, 28, 29, 30, 31, 32, 33, 34, 35, 36, 37, 38, 39, 40, 41, 42] (by decide +kernel) (by decide +kernel)
set_option maxRecDepth 20000 in
theorem gX11_sum_X11_isSum : GoodIn wsX11_sum (wsV RX11 119 RX11 yX11_isSum wsX11_isSum) := goodIn_app (goodIn_of _ (by decide +kernel)) ggX11_sum_X11_isSum
theorem dX11_sum_0 : decode cX11_sum 0 = .ok (.aload_n 0, 1) := by decide +kernel
theorem dX11_sum_1 : decode cX11_sum 1 = .ok (.iload_n 1, 1) := by decide +kernel
theorem dX11_sum_2 : decode cX11_sum 2 = .ok (.invokevirtual 119, 3) := by decide +kernel
theorem dX11_sum_5 : decode cX11_sum 5 = .ok (.ifCond .eq 12, 3) := by decide +kernel
theorem dX11_sum_8 : decode cX11_sum 8 = .ok (.aload_n 0, 1) := by decide +kernel
theorem dX11_sum_9 : decode cX11_sum 9 = .ok (.getfield 38, 3) := by decide +kernel
theorem dX11_sum_12 : decode cX11_sum 12 = .ok (.iload_n 1, 1) := by decide +kernel
theorem dX11_sum_13 : decode cX11_sum 13 = .ok (.laload, 1) := by decide +kernel
theorem dX11_sum_14 : decode cX11_sum 14 = .ok (.goto 4, 3) := by decide +kernel
theorem dX11_sum_17 : decode cX11_sum 17 = .ok (.lconst 0, 1) := by decide +kernel
theorem dX11_sum_18 : decode cX11_sum 18 = .ok (.lreturn, 1) := by decide +kernel
theorem dX11_kept_0 : decode cX11_kept 0 = .ok (.aload_n 0, 1) := by decide +kernel
theorem dX11_kept_1 : decode cX11_kept 1 = .ok (.getfield 81, 3) := by decide +kernel
theorem dX11_kept_4 : decode cX11_kept 4 = .ok (.sipush 256, 3) := by decide +kernel
theorem dX11_kept_7 : decode cX11_kept 7 = .ok (.if_icmp .ge 10, 3) := by decide +kernel
theorem dX11_kept_10 : decode cX11_kept 10 = .ok (.aload_n 0, 1) := by decide +kernel
theorem dX11_kept_11 : decode cX11_kept 11 = .ok (.getfield 81, 3) := by decide +kernel
theorem dX11_kept_14 : decode cX11_kept 14 = .ok (.goto 6, 3) := by decide +kernel
theorem dX11_kept_17 : decode cX11_kept 17 = .ok (.sipush 256, 3) := by decide +kernel
theorem dX11_kept_20 : decode cX11_kept 20 = .ok (.ireturn, 1) := by decide +kernel
theorem dX11_latest_0 : decode cX11_latest 0 = .ok (.aload_n 0, 1) := by decide +kernel
theorem dX11_latest_1 : decode cX11_latest 1 = .ok (.getfield 81, 3) := by decide +kernel
theorem dX11_latest_4 : decode cX11_latest 4 = .ok (.iconst 1, 1) := by decide +kernel
theorem dX11_latest_5 : decode cX11_latest 5 = .ok (.isub, 1) := by decide +kernel
theorem dX11_latest_6 : decode cX11_latest 6 = .ok (.iload_n 1, 1) := by decide +kernel
theorem dX11_latest_7 : decode cX11_latest 7 = .ok (.isub, 1) := by decide +kernel
theorem dX11_latest_8 : decode cX11_latest 8 = .ok (.sipush 256, 3) := by decide +kernel
theorem dX11_latest_11 : decode cX11_latest 11 = .ok (.irem, 1) := by decide +kernel
theorem dX11_latest_12 : decode cX11_latest 12 = .ok (.ireturn, 1) := by decide +kernel
set_option maxRecDepth 20000 in
theorem ggX11_was_X11_kept : GoodIn wsX11_was wsX11_kept := goodIn_r _ [8, 9, 14, 15, 16, 17, 18, 19, 20, 21, 22, 23, 24, 25, 26, 27, 28, 29, 30, 31, 32, 33, 34, 35, 36, 37, 38, 39, 40, 41, 42, 43, 44, 45, 46, 47, 48] (by decide +kernel) (by decide +kernel)
set_option maxRecDepth 20000 in
theorem gX11_was_X11_kept : GoodIn wsX11_was (wsV RX11 152 RX11 yX11_kept wsX11_kept) := goodIn_app (goodIn_of _ (by decide +kernel)) ggX11_was_X11_kept
set_option maxRecDepth 20000 in
theorem ggX11_was_X11_latest : GoodIn wsX11_was wsX11_latest := goodIn_r _ [13, 9, 14, 15, 16, 17, 18, 19, 20, 21, 22, 23, 24, 25, 26, 27, 28, 29, 30, 31, 32, 33, 34, 35, 36, 37, 38, 39, 40, 41, 42, 43, 44, 45, 46, 47, 48] (by decide +kernel) (by decide +kernel)
set_option maxRecDepth 20000 in
theorem gX11_was_X11_latest : GoodIn wsX11_was (wsV RX11 156 RX11 yX11_latest wsX11_latest) := goodIn_app (goodIn_of _ (by decide +kernel)) ggX11_was_X11_latest
theorem dX11_was_0 : decode cX11_was 0 = .ok (.iload_n 1, 1) := by decide +kernel
theorem dX11_was_1 : decode cX11_was 1 = .ok (.ifCond .lt 20, 3) := by decide +kernel
theorem dX11_was_4 : decode cX11_was 4 = .ok (.iload_n 1, 1) := by decide +kernel
theorem dX11_was_5 : decode cX11_was 5 = .ok (.aload_n 0, 1) := by decide +kernel
theorem dX11_was_6 : decode cX11_was 6 = .ok (.invokevirtual 152, 3) := by decide +kernel
theorem dX11_was_9 : decode cX11_was 9 = .ok (.if_icmp .ge 12, 3) := by decide +kernel
theorem dX11_was_12 : decode cX11_was 12 = .ok (.iload_n 2, 1) := by decide +kernel
theorem dX11_was_13 : decode cX11_was 13 = .ok (.ifCond .lt 8, 3) := by decide +kernel
theorem dX11_was_16 : decode cX11_was 16 = .ok (.iload_n 2, 1) := by decide +kernel
theorem dX11_was_17 : decode cX11_was 17 = .ok (.iconst 1, 1) := by decide +kernel
theorem dX11_was_18 : decode cX11_was 18 = .ok (.if_icmp .le 8, 3) := by decide +kernel
theorem dX11_was_21 : decode cX11_was 21 = .ok (.ldc 151, 2) := by decide +kernel
theorem dX11_was_23 : decode cX11_was 23 = .ok (.goto 30, 3) := by decide +kernel
theorem dX11_was_26 : decode cX11_was 26 = .ok (.iload_n 2, 1) := by decide +kernel
theorem dX11_was_27 : decode cX11_was 27 = .ok (.ifCond .ne 16, 3) := by decide +kernel
theorem dX11_was_30 : decode cX11_was 30 = .ok (.aload_n 0, 1) := by decide +kernel
theorem dX11_was_31 : decode cX11_was 31 = .ok (.getfield 54, 3) := by decide +kernel
theorem dX11_was_34 : decode cX11_was 34 = .ok (.aload_n 0, 1) := by decide +kernel
theorem dX11_was_35 : decode cX11_was 35 = .ok (.iload_n 1, 1) := by decide +kernel
theorem dX11_was_36 : decode cX11_was 36 = .ok (.invokevirtual 156, 3) := by decide +kernel
theorem dX11_was_39 : decode cX11_was 39 = .ok (.iaload, 1) := by decide +kernel
theorem dX11_was_40 : decode cX11_was 40 = .ok (.goto 13, 3) := by decide +kernel
theorem dX11_was_43 : decode cX11_was 43 = .ok (.aload_n 0, 1) := by decide +kernel
theorem dX11_was_44 : decode cX11_was 44 = .ok (.getfield 57, 3) := by decide +kernel
theorem dX11_was_47 : decode cX11_was 47 = .ok (.aload_n 0, 1) := by decide +kernel
theorem dX11_was_48 : decode cX11_was 48 = .ok (.iload_n 1, 1) := by decide +kernel
theorem dX11_was_49 : decode cX11_was 49 = .ok (.invokevirtual 156, 3) := by decide +kernel
theorem dX11_was_52 : decode cX11_was 52 = .ok (.iaload, 1) := by decide +kernel
theorem dX11_was_53 : decode cX11_was 53 = .ok (.ireturn, 1) := by decide +kernel
set_option maxRecDepth 20000 in
theorem ggX11_behind_X11_kept : GoodIn wsX11_behind wsX11_kept := goodIn_r _ [6, 7, 12, 13, 14, 15, 16, 17, 18, 19, 20, 21, 22, 23, 24, 25, 26, 27, 28, 29, 30, 31, 32, 33, 34, 35, 36, 37, 38, 39, 40, 41, 42, 43, 44, 45, 46] (by decide +kernel) (by decide +kernel)
set_option maxRecDepth 20000 in
theorem gX11_behind_X11_kept : GoodIn wsX11_behind (wsV RX11 152 RX11 yX11_kept wsX11_kept) := goodIn_app (goodIn_of _ (by decide +kernel)) ggX11_behind_X11_kept
set_option maxRecDepth 20000 in
theorem ggX11_behind_X11_latest : GoodIn wsX11_behind wsX11_latest := goodIn_r _ [11, 7, 12, 13, 14, 15, 16, 17, 18, 19, 20, 21, 22, 23, 24, 25, 26, 27, 28, 29, 30, 31, 32, 33, 34, 35, 36, 37, 38, 39, 40, 41, 42, 43, 44, 45, 46] (by decide +kernel) (by decide +kernel)
set_option maxRecDepth 20000 in
theorem gX11_behind_X11_latest : GoodIn wsX11_behind (wsV RX11 156 RX11 yX11_latest wsX11_latest) := goodIn_app (goodIn_of _ (by decide +kernel)) ggX11_behind_X11_latest
theorem dX11_behind_0 : decode cX11_behind 0 = .ok (.iload_n 1, 1) := by decide +kernel
theorem dX11_behind_1 : decode cX11_behind 1 = .ok (.ifCond .lt 11, 3) := by decide +kernel
theorem dX11_behind_4 : decode cX11_behind 4 = .ok (.iload_n 1, 1) := by decide +kernel
theorem dX11_behind_5 : decode cX11_behind 5 = .ok (.aload_n 0, 1) := by decide +kernel
theorem dX11_behind_6 : decode cX11_behind 6 = .ok (.invokevirtual 152, 3) := by decide +kernel
theorem dX11_behind_9 : decode cX11_behind 9 = .ok (.if_icmp .lt 7, 3) := by decide +kernel
theorem dX11_behind_12 : decode cX11_behind 12 = .ok (.lconst 0, 1) := by decide +kernel
theorem dX11_behind_13 : decode cX11_behind 13 = .ok (.goto 13, 3) := by decide +kernel
theorem dX11_behind_16 : decode cX11_behind 16 = .ok (.aload_n 0, 1) := by decide +kernel
theorem dX11_behind_17 : decode cX11_behind 17 = .ok (.getfield 60, 3) := by decide +kernel
theorem dX11_behind_20 : decode cX11_behind 20 = .ok (.aload_n 0, 1) := by decide +kernel
theorem dX11_behind_21 : decode cX11_behind 21 = .ok (.iload_n 1, 1) := by decide +kernel
theorem dX11_behind_22 : decode cX11_behind 22 = .ok (.invokevirtual 156, 3) := by decide +kernel
theorem dX11_behind_25 : decode cX11_behind 25 = .ok (.laload, 1) := by decide +kernel
theorem dX11_behind_26 : decode cX11_behind 26 = .ok (.lreturn, 1) := by decide +kernel
set_option maxRecDepth 20000 in
theorem ggX11_missed_X11_kept : GoodIn wsX11_missed wsX11_kept := goodIn_r _ [8, 9, 14, 15, 16, 17, 18, 19, 20, 21, 22, 23, 24, 25, 26, 27, 28, 29, 30, 31, 32, 33, 34, 35, 36, 37, 38, 39, 40, 41, 42, 43, 44, 45, 46, 47, 48] (by decide +kernel) (by decide +kernel)
set_option maxRecDepth 20000 in
theorem gX11_missed_X11_kept : GoodIn wsX11_missed (wsV RX11 152 RX11 yX11_kept wsX11_kept) := goodIn_app (goodIn_of _ (by decide +kernel)) ggX11_missed_X11_kept
set_option maxRecDepth 20000 in
theorem ggX11_missed_X11_latest : GoodIn wsX11_missed wsX11_latest := goodIn_r _ [13, 9, 14, 15, 16, 17, 18, 19, 20, 21, 22, 23, 24, 25, 26, 27, 28, 29, 30, 31, 32, 33, 34, 35, 36, 37, 38, 39, 40, 41, 42, 43, 44, 45, 46, 47, 48] (by decide +kernel) (by decide +kernel)
set_option maxRecDepth 20000 in
theorem gX11_missed_X11_latest : GoodIn wsX11_missed (wsV RX11 156 RX11 yX11_latest wsX11_latest) := goodIn_app (goodIn_of _ (by decide +kernel)) ggX11_missed_X11_latest
theorem dX11_missed_0 : decode cX11_missed 0 = .ok (.iload_n 1, 1) := by decide +kernel
theorem dX11_missed_1 : decode cX11_missed 1 = .ok (.iconst 1, 1) := by decide +kernel
theorem dX11_missed_2 : decode cX11_missed 2 = .ok (.if_icmp .lt 11, 3) := by decide +kernel
theorem dX11_missed_5 : decode cX11_missed 5 = .ok (.iload_n 1, 1) := by decide +kernel
theorem dX11_missed_6 : decode cX11_missed 6 = .ok (.aload_n 0, 1) := by decide +kernel
theorem dX11_missed_7 : decode cX11_missed 7 = .ok (.invokevirtual 152, 3) := by decide +kernel
theorem dX11_missed_10 : decode cX11_missed 10 = .ok (.if_icmp .le 5, 3) := by decide +kernel
theorem dX11_missed_13 : decode cX11_missed 13 = .ok (.lconst 0, 1) := by decide +kernel
theorem dX11_missed_14 : decode cX11_missed 14 = .ok (.lreturn, 1) := by decide +kernel
theorem dX11_missed_15 : decode cX11_missed 15 = .ok (.lconst 0, 1) := by decide +kernel
theorem dX11_missed_16 : decode cX11_missed 16 = .ok (.lstore_n 2, 1) := by decide +kernel
theorem dX11_missed_17 : decode cX11_missed 17 = .ok (.iconst 0, 1) := by decide +kernel
theorem dX11_missed_18 : decode cX11_missed 18 = .ok (.istore 4, 2) := by decide +kernel
theorem dX11_missed_20 : decode cX11_missed 20 = .ok (.iload 4, 2) := by decide +kernel
theorem dX11_missed_22 : decode cX11_missed 22 = .ok (.iload_n 1, 1) := by decide +kernel
theorem dX11_missed_23 : decode cX11_missed 23 = .ok (.if_icmp .ge 43, 3) := by decide +kernel
theorem dX11_missed_26 : decode cX11_missed 26 = .ok (.lload_n 2, 1) := by decide +kernel
theorem dX11_missed_27 : decode cX11_missed 27 = .ok (.aload_n 0, 1) := by decide +kernel
theorem dX11_missed_28 : decode cX11_missed 28 = .ok (.getfield 54, 3) := by decide +kernel
theorem dX11_missed_31 : decode cX11_missed 31 = .ok (.aload_n 0, 1) := by decide +kernel
theorem dX11_missed_32 : decode cX11_missed 32 = .ok (.iload 4, 2) := by decide +kernel
theorem dX11_missed_34 : decode cX11_missed 34 = .ok (.invokevirtual 156, 3) := by decide +kernel
theorem dX11_missed_37 : decode cX11_missed 37 = .ok (.iaload, 1) := by decide +kernel
theorem dX11_missed_38 : decode cX11_missed 38 = .ok (.i2l, 1) := by decide +kernel
theorem dX11_missed_39 : decode cX11_missed 39 = .ok (.aload_n 0, 1) := by decide +kernel
theorem dX11_missed_40 : decode cX11_missed 40 = .ok (.getfield 7, 3) := by decide +kernel
theorem dX11_missed_43 : decode cX11_missed 43 = .ok (.i2l, 1) := by decide +kernel
theorem dX11_missed_44 : decode cX11_missed 44 = .ok (.lmul, 1) := by decide +kernel
theorem dX11_missed_45 : decode cX11_missed 45 = .ok (.aload_n 0, 1) := by decide +kernel
theorem dX11_missed_46 : decode cX11_missed 46 = .ok (.getfield 57, 3) := by decide +kernel
theorem dX11_missed_49 : decode cX11_missed 49 = .ok (.aload_n 0, 1) := by decide +kernel
theorem dX11_missed_50 : decode cX11_missed 50 = .ok (.iload 4, 2) := by decide +kernel
theorem dX11_missed_52 : decode cX11_missed 52 = .ok (.invokevirtual 156, 3) := by decide +kernel
theorem dX11_missed_55 : decode cX11_missed 55 = .ok (.iaload, 1) := by decide +kernel
theorem dX11_missed_56 : decode cX11_missed 56 = .ok (.i2l, 1) := by decide +kernel
theorem dX11_missed_57 : decode cX11_missed 57 = .ok (.lsub, 1) := by decide +kernel
theorem dX11_missed_58 : decode cX11_missed 58 = .ok (.ladd, 1) := by decide +kernel
theorem dX11_missed_59 : decode cX11_missed 59 = .ok (.lstore_n 2, 1) := by decide +kernel
theorem dX11_missed_60 : decode cX11_missed 60 = .ok (.iinc 4 1, 3) := by decide +kernel
theorem dX11_missed_63 : decode cX11_missed 63 = .ok (.goto (-43), 3) := by decide +kernel
theorem dX11_missed_66 : decode cX11_missed 66 = .ok (.lload_n 2, 1) := by decide +kernel
theorem dX11_missed_67 : decode cX11_missed 67 = .ok (.lreturn, 1) := by decide +kernel
set_option maxRecDepth 20000 in
theorem ggX11_ring_X11_isWish : GoodIn wsX11_ring wsX11_isWish := goodIn_r _ [8, 9, 10] (by decide +kernel) (by decide +kernel)
set_option maxRecDepth 20000 in
theorem gX11_ring_X11_isWish : GoodIn wsX11_ring (va_wsS RX11 145 yX11_isWish wsX11_isWish) := goodIn_app (goodIn_of _ (by decide +kernel)) ggX11_ring_X11_isWish
set_option maxRecDepth 20000 in
theorem ggX11_ring_X11_fromHere : GoodIn wsX11_ring wsX11_fromHere := goodIn_r _ [14, 1, 3, 15, 45, 46, 47, 48, 49, 50, 51, 52, 53, 54, 55, 56, 57, 58, 59, 60, 61, 62, 63, 64, 65, 66, 67, 68, 69, 70, 71, 72, 73, 74, 75, 76, 77, 78, 79] (by decide +kernel) (by decide +kernel)
set_option maxRecDepth 20000 in
theorem gX11_ring_X11_fromHere : GoodIn wsX11_ring (wsV RX11 135 RX11 yX11_fromHere wsX11_fromHere) := goodIn_app (goodIn_of _ (by decide +kernel)) ggX11_ring_X11_fromHere
set_option maxRecDepth 20000 in
theorem ggX11_ring_X11_next : GoodIn wsX11_ring wsX11_next := goodIn_r _ [19, 20, 21, 3, 22, 23, 24, 25, 1, 26, 27, 28, 29, 30, 31, 32, 7, 33, 34, 35, 36, 37, 38, 39, 40, 45, 46, 47, 48, 49, 50, 51, 52, 53, 54, 55, 56, 57, 58, 59, 60, 61, 62, 63, 64, 65, 66, 67, 68, 69, 70, 71, 72, 73, 74, 75, 76, 77, 78, 79] (by decide +kernel) (by decide +kernel)
set_option maxRecDepth 20000 in
theorem gX11_ring_X11_next : GoodIn wsX11_ring (wsV RX11 138 RX11 yX11_next wsX11_next) := goodIn_app (goodIn_of _ (by decide +kernel)) ggX11_ring_X11_next
set_option maxRecDepth 20000 in
theorem ggX11_ring_X11_goOn : GoodIn wsX11_ring wsX11_goOn := goodIn_r _ [44, 1, 3, 23, 45, 46, 47, 48, 49, 50, 51, 52, 53, 54, 55, 56, 57, 58, 59, 60, 61, 62, 63, 64, 65, 66, 67, 68, 69, 70, 71, 72, 73, 74, 75, 76, 77, 78, 79] (by decide +kernel) (by decide +kernel)
set_option maxRecDepth 20000 in
theorem gX11_ring_X11_goOn : GoodIn wsX11_ring (wsV RX11 160 RX11 yX11_goOn wsX11_goOn) := goodIn_app (goodIn_of _ (by decide +kernel)) ggX11_ring_X11_goOn
theorem dX11_ring_0 : decode cX11_ring 0 = .ok (.iload_n 1, 1) := by decide +kernel
theorem dX11_ring_1 : decode cX11_ring 1 = .ok (.invokestatic 145, 3) := by decide +kernel
theorem dX11_ring_4 : decode cX11_ring 4 = .ok (.ifCond .ne 5, 3) := by decide +kernel
theorem dX11_ring_7 : decode cX11_ring 7 = .ok (.iconst (-1), 1) := by decide +kernel
theorem dX11_ring_8 : decode cX11_ring 8 = .ok (.ireturn, 1) := by decide +kernel
theorem dX11_ring_9 : decode cX11_ring 9 = .ok (.aload_n 0, 1) := by decide +kernel
theorem dX11_ring_10 : decode cX11_ring 10 = .ok (.invokevirtual 135, 3) := by decide +kernel
theorem dX11_ring_13 : decode cX11_ring 13 = .ok (.iconst 0, 1) := by decide +kernel
theorem dX11_ring_14 : decode cX11_ring 14 = .ok (.istore_n 2, 1) := by decide +kernel
theorem dX11_ring_15 : decode cX11_ring 15 = .ok (.iload_n 2, 1) := by decide +kernel
theorem dX11_ring_16 : decode cX11_ring 16 = .ok (.aload_n 0, 1) := by decide +kernel
theorem dX11_ring_17 : decode cX11_ring 17 = .ok (.getfield 16, 3) := by decide +kernel
theorem dX11_ring_20 : decode cX11_ring 20 = .ok (.if_icmp .ge 21, 3) := by decide +kernel
theorem dX11_ring_23 : decode cX11_ring 23 = .ok (.aload_n 0, 1) := by decide +kernel
theorem dX11_ring_24 : decode cX11_ring 24 = .ok (.getfield 75, 3) := by decide +kernel
theorem dX11_ring_27 : decode cX11_ring 27 = .ok (.iload_n 2, 1) := by decide +kernel
theorem dX11_ring_28 : decode cX11_ring 28 = .ok (.aload_n 0, 1) := by decide +kernel
theorem dX11_ring_29 : decode cX11_ring 29 = .ok (.getfield 66, 3) := by decide +kernel
theorem dX11_ring_32 : decode cX11_ring 32 = .ok (.iload_n 2, 1) := by decide +kernel
theorem dX11_ring_33 : decode cX11_ring 33 = .ok (.laload, 1) := by decide +kernel
theorem dX11_ring_34 : decode cX11_ring 34 = .ok (.lastore, 1) := by decide +kernel
theorem dX11_ring_35 : decode cX11_ring 35 = .ok (.iinc 2 1, 3) := by decide +kernel
theorem dX11_ring_38 : decode cX11_ring 38 = .ok (.goto (-23), 3) := by decide +kernel
theorem dX11_ring_41 : decode cX11_ring 41 = .ok (.iconst 1, 1) := by decide +kernel
theorem dX11_ring_42 : decode cX11_ring 42 = .ok (.istore_n 2, 1) := by decide +kernel
theorem dX11_ring_43 : decode cX11_ring 43 = .ok (.iload_n 2, 1) := by decide +kernel
theorem dX11_ring_44 : decode cX11_ring 44 = .ok (.sipush 4096, 3) := by decide +kernel
theorem dX11_ring_47 : decode cX11_ring 47 = .ok (.if_icmp .gt 147, 3) := by decide +kernel
theorem dX11_ring_50 : decode cX11_ring 50 = .ok (.aload_n 0, 1) := by decide +kernel
theorem dX11_ring_51 : decode cX11_ring 51 = .ok (.iload_n 1, 1) := by decide +kernel
theorem dX11_ring_52 : decode cX11_ring 52 = .ok (.invokevirtual 138, 3) := by decide +kernel
theorem dX11_ring_55 : decode cX11_ring 55 = .ok (.ifCond .ne 6, 3) := by decide +kernel
theorem dX11_ring_58 : decode cX11_ring 58 = .ok (.bipush (-3), 2) := by decide +kernel
theorem dX11_ring_60 : decode cX11_ring 60 = .ok (.ireturn, 1) := by decide +kernel
theorem dX11_ring_61 : decode cX11_ring 61 = .ok (.aload_n 0, 1) := by decide +kernel
theorem dX11_ring_62 : decode cX11_ring 62 = .ok (.invokevirtual 160, 3) := by decide +kernel
theorem dX11_ring_65 : decode cX11_ring 65 = .ok (.iconst 0, 1) := by decide +kernel
theorem dX11_ring_66 : decode cX11_ring 66 = .ok (.istore_n 3, 1) := by decide +kernel
theorem dX11_ring_67 : decode cX11_ring 67 = .ok (.iload_n 3, 1) := by decide +kernel
theorem dX11_ring_68 : decode cX11_ring 68 = .ok (.aload_n 0, 1) := by decide +kernel
theorem dX11_ring_69 : decode cX11_ring 69 = .ok (.getfield 16, 3) := by decide +kernel
theorem dX11_ring_72 : decode cX11_ring 72 = .ok (.if_icmp .ge 28, 3) := by decide +kernel
theorem dX11_ring_75 : decode cX11_ring 75 = .ok (.aload_n 0, 1) := by decide +kernel
theorem dX11_ring_76 : decode cX11_ring 76 = .ok (.getfield 75, 3) := by decide +kernel
theorem dX11_ring_79 : decode cX11_ring 79 = .ok (.aload_n 0, 1) := by decide +kernel
theorem dX11_ring_80 : decode cX11_ring 80 = .ok (.getfield 16, 3) := by decide +kernel
theorem dX11_ring_83 : decode cX11_ring 83 = .ok (.iload_n 2, 1) := by decide +kernel
theorem dX11_ring_84 : decode cX11_ring 84 = .ok (.imul, 1) := by decide +kernel
theorem dX11_ring_85 : decode cX11_ring 85 = .ok (.iload_n 3, 1) := by decide +kernel
theorem dX11_ring_86 : decode cX11_ring 86 = .ok (.iadd, 1) := by decide +kernel
theorem dX11_ring_87 : decode cX11_ring 87 = .ok (.aload_n 0, 1) := by decide +kernel
theorem dX11_ring_88 : decode cX11_ring 88 = .ok (.getfield 66, 3) := by decide +kernel
theorem dX11_ring_91 : decode cX11_ring 91 = .ok (.iload_n 3, 1) := by decide +kernel
theorem dX11_ring_92 : decode cX11_ring 92 = .ok (.laload, 1) := by decide +kernel
theorem dX11_ring_93 : decode cX11_ring 93 = .ok (.lastore, 1) := by decide +kernel
theorem dX11_ring_94 : decode cX11_ring 94 = .ok (.iinc 3 1, 3) := by decide +kernel
theorem dX11_ring_97 : decode cX11_ring 97 = .ok (.goto (-30), 3) := by decide +kernel
theorem dX11_ring_100 : decode cX11_ring 100 = .ok (.iconst 0, 1) := by decide +kernel
theorem dX11_ring_101 : decode cX11_ring 101 = .ok (.istore_n 3, 1) := by decide +kernel
theorem dX11_ring_102 : decode cX11_ring 102 = .ok (.iload_n 3, 1) := by decide +kernel
theorem dX11_ring_103 : decode cX11_ring 103 = .ok (.iload_n 2, 1) := by decide +kernel
theorem dX11_ring_104 : decode cX11_ring 104 = .ok (.if_icmp .ge 84, 3) := by decide +kernel
theorem dX11_ring_107 : decode cX11_ring 107 = .ok (.iconst 1, 1) := by decide +kernel
theorem dX11_ring_108 : decode cX11_ring 108 = .ok (.istore 4, 2) := by decide +kernel
theorem dX11_ring_110 : decode cX11_ring 110 = .ok (.iconst 0, 1) := by decide +kernel
theorem dX11_ring_111 : decode cX11_ring 111 = .ok (.istore 5, 2) := by decide +kernel
theorem dX11_ring_113 : decode cX11_ring 113 = .ok (.iload 5, 2) := by decide +kernel
theorem dX11_ring_115 : decode cX11_ring 115 = .ok (.aload_n 0, 1) := by decide +kernel
theorem dX11_ring_116 : decode cX11_ring 116 = .ok (.getfield 16, 3) := by decide +kernel
theorem dX11_ring_119 : decode cX11_ring 119 = .ok (.if_icmp .ge 46, 3) := by decide +kernel
theorem dX11_ring_122 : decode cX11_ring 122 = .ok (.iload 4, 2) := by decide +kernel
theorem dX11_ring_124 : decode cX11_ring 124 = .ok (.ifCond .eq 41, 3) := by decide +kernel
theorem dX11_ring_127 : decode cX11_ring 127 = .ok (.aload_n 0, 1) := by decide +kernel
theorem dX11_ring_128 : decode cX11_ring 128 = .ok (.getfield 75, 3) := by decide +kernel
theorem dX11_ring_131 : decode cX11_ring 131 = .ok (.aload_n 0, 1) := by decide +kernel
theorem dX11_ring_132 : decode cX11_ring 132 = .ok (.getfield 16, 3) := by decide +kernel
theorem dX11_ring_135 : decode cX11_ring 135 = .ok (.iload_n 3, 1) := by decide +kernel
theorem dX11_ring_136 : decode cX11_ring 136 = .ok (.imul, 1) := by decide +kernel
theorem dX11_ring_137 : decode cX11_ring 137 = .ok (.iload 5, 2) := by decide +kernel
theorem dX11_ring_139 : decode cX11_ring 139 = .ok (.iadd, 1) := by decide +kernel
theorem dX11_ring_140 : decode cX11_ring 140 = .ok (.laload, 1) := by decide +kernel
theorem dX11_ring_141 : decode cX11_ring 141 = .ok (.aload_n 0, 1) := by decide +kernel
theorem dX11_ring_142 : decode cX11_ring 142 = .ok (.getfield 66, 3) := by decide +kernel
theorem dX11_ring_145 : decode cX11_ring 145 = .ok (.iload 5, 2) := by decide +kernel
theorem dX11_ring_147 : decode cX11_ring 147 = .ok (.laload, 1) := by decide +kernel
theorem dX11_ring_148 : decode cX11_ring 148 = .ok (.lcmp, 1) := by decide +kernel
theorem dX11_ring_149 : decode cX11_ring 149 = .ok (.ifCond .ne 7, 3) := by decide +kernel
theorem dX11_ring_152 : decode cX11_ring 152 = .ok (.iconst 1, 1) := by decide +kernel
theorem dX11_ring_153 : decode cX11_ring 153 = .ok (.goto 4, 3) := by decide +kernel
theorem dX11_ring_156 : decode cX11_ring 156 = .ok (.iconst 0, 1) := by decide +kernel
theorem dX11_ring_157 : decode cX11_ring 157 = .ok (.istore 4, 2) := by decide +kernel
theorem dX11_ring_159 : decode cX11_ring 159 = .ok (.iinc 5 1, 3) := by decide +kernel
theorem dX11_ring_162 : decode cX11_ring 162 = .ok (.goto (-49), 3) := by decide +kernel
theorem dX11_ring_165 : decode cX11_ring 165 = .ok (.iload 4, 2) := by decide +kernel
theorem dX11_ring_167 : decode cX11_ring 167 = .ok (.ifCond .ne 6, 3) := by decide +kernel
theorem dX11_ring_170 : decode cX11_ring 170 = .ok (.goto 12, 3) := by decide +kernel
theorem dX11_ring_173 : decode cX11_ring 173 = .ok (.aload_n 0, 1) := by decide +kernel
theorem dX11_ring_174 : decode cX11_ring 174 = .ok (.iload_n 3, 1) := by decide +kernel
theorem dX11_ring_175 : decode cX11_ring 175 = .ok (.putfield 163, 3) := by decide +kernel
theorem dX11_ring_178 : decode cX11_ring 178 = .ok (.iload_n 2, 1) := by decide +kernel
theorem dX11_ring_179 : decode cX11_ring 179 = .ok (.iload_n 3, 1) := by decide +kernel
theorem dX11_ring_180 : decode cX11_ring 180 = .ok (.isub, 1) := by decide +kernel
theorem dX11_ring_181 : decode cX11_ring 181 = .ok (.ireturn, 1) := by decide +kernel
theorem dX11_ring_182 : decode cX11_ring 182 = .ok (.iinc 3 1, 3) := by decide +kernel
theorem dX11_ring_185 : decode cX11_ring 185 = .ok (.goto (-83), 3) := by decide +kernel
theorem dX11_ring_188 : decode cX11_ring 188 = .ok (.iinc 2 1, 3) := by decide +kernel
theorem dX11_ring_191 : decode cX11_ring 191 = .ok (.goto (-148), 3) := by decide +kernel
theorem dX11_ring_194 : decode cX11_ring 194 = .ok (.bipush (-2), 2) := by decide +kernel
theorem dX11_ring_196 : decode cX11_ring 196 = .ok (.ireturn, 1) := by decide +kernel
theorem dX11_tail_0 : decode cX11_tail 0 = .ok (.aload_n 0, 1) := by decide +kernel
theorem dX11_tail_1 : decode cX11_tail 1 = .ok (.getfield 163, 3) := by decide +kernel
theorem dX11_tail_4 : decode cX11_tail 4 = .ok (.ireturn, 1) := by decide +kernel
set_option maxRecDepth 20000 in
theorem ggX11_leaves_X11_isWish : GoodIn wsX11_leaves wsX11_isWish := goodIn_r _ [6, 7, 8] (by decide +kernel) (by decide +kernel)
set_option maxRecDepth 20000 in
theorem gX11_leaves_X11_isWish : GoodIn wsX11_leaves (va_wsS RX11 145 yX11_isWish wsX11_isWish) := goodIn_app (goodIn_of _ (by decide +kernel)) ggX11_leaves_X11_isWish
set_option maxRecDepth 20000 in
theorem ggX11_leaves_X11_fromHere : GoodIn wsX11_leaves wsX11_fromHere := goodIn_r _ [12, 1, 13, 14, 43, 44, 45, 46, 47, 48, 49, 50, 51, 52, 53, 54, 55, 56, 57, 58, 59, 60, 61, 62, 63, 64, 65, 66, 67, 68, 69, 70, 71, 72, 73, 74, 75, 76, 77] (by decide +kernel) (by decide +kernel)
set_option maxRecDepth 20000 in
theorem gX11_leaves_X11_fromHere : GoodIn wsX11_leaves (wsV RX11 135 RX11 yX11_fromHere wsX11_fromHere) := goodIn_app (goodIn_of _ (by decide +kernel)) ggX11_leaves_X11_fromHere
set_option maxRecDepth 20000 in
theorem ggX11_leaves_X11_next : GoodIn wsX11_leaves wsX11_next := goodIn_r _ [18, 19, 20, 13, 21, 2, 22, 23, 1, 24, 25, 26, 27, 28, 29, 30, 5, 31, 32, 33, 34, 35, 36, 37, 38, 43, 44, 45, 46, 47, 48, 49, 50, 51, 52, 53, 54, 55, 56, 57, 58, 59, 60, 61, 62, 63, 64, 65, 66, 67, 68, 69, 70, 71, 72, 73, 74, 75, 76, 77] (by decide +kernel) (by decide +kernel)
set_option maxRecDepth 20000 in
theorem gX11_leaves_X11_next : GoodIn wsX11_leaves (wsV RX11 138 RX11 yX11_next wsX11_next) := goodIn_app (goodIn_of _ (by decide +kernel)) ggX11_leaves_X11_next
set_option maxRecDepth 20000 in
theorem ggX11_leaves_X11_goOn : GoodIn wsX11_leaves wsX11_goOn := goodIn_r _ [42, 1, 13, 2, 43, 44, 45, 46, 47, 48, 49, 50, 51, 52, 53, 54, 55, 56, 57, 58, 59, 60, 61, 62, 63, 64, 65, 66, 67, 68, 69, 70, 71, 72, 73, 74, 75, 76, 77] (by decide +kernel) (by decide +kernel)
set_option maxRecDepth 20000 in
theorem gX11_leaves_X11_goOn : GoodIn wsX11_leaves (wsV RX11 160 RX11 yX11_goOn wsX11_goOn) := goodIn_app (goodIn_of _ (by decide +kernel)) ggX11_leaves_X11_goOn
theorem dX11_leaves_0 : decode cX11_leaves 0 = .ok (.iload_n 1, 1) := by decide +kernel
theorem dX11_leaves_1 : decode cX11_leaves 1 = .ok (.invokestatic 145, 3) := by decide +kernel
theorem dX11_leaves_4 : decode cX11_leaves 4 = .ok (.ifCond .eq 9, 3) := by decide +kernel
theorem dX11_leaves_7 : decode cX11_leaves 7 = .ok (.lload_n 2, 1) := by decide +kernel
theorem dX11_leaves_8 : decode cX11_leaves 8 = .ok (.lconst 0, 1) := by decide +kernel
theorem dX11_leaves_9 : decode cX11_leaves 9 = .ok (.lcmp, 1) := by decide +kernel
theorem dX11_leaves_10 : decode cX11_leaves 10 = .ok (.ifCond .ge 5, 3) := by decide +kernel
theorem dX11_leaves_13 : decode cX11_leaves 13 = .ok (.iconst (-1), 1) := by decide +kernel
theorem dX11_leaves_14 : decode cX11_leaves 14 = .ok (.ireturn, 1) := by decide +kernel
theorem dX11_leaves_15 : decode cX11_leaves 15 = .ok (.aload_n 0, 1) := by decide +kernel
theorem dX11_leaves_16 : decode cX11_leaves 16 = .ok (.invokevirtual 135, 3) := by decide +kernel
theorem dX11_leaves_19 : decode cX11_leaves 19 = .ok (.iconst 1, 1) := by decide +kernel
theorem dX11_leaves_20 : decode cX11_leaves 20 = .ok (.istore 4, 2) := by decide +kernel
theorem dX11_leaves_22 : decode cX11_leaves 22 = .ok (.iload 4, 2) := by decide +kernel
theorem dX11_leaves_24 : decode cX11_leaves 24 = .ok (.sipush 4096, 3) := by decide +kernel
theorem dX11_leaves_27 : decode cX11_leaves 27 = .ok (.if_icmp .gt 91, 3) := by decide +kernel
theorem dX11_leaves_30 : decode cX11_leaves 30 = .ok (.aload_n 0, 1) := by decide +kernel
theorem dX11_leaves_31 : decode cX11_leaves 31 = .ok (.iload_n 1, 1) := by decide +kernel
theorem dX11_leaves_32 : decode cX11_leaves 32 = .ok (.invokevirtual 138, 3) := by decide +kernel
theorem dX11_leaves_35 : decode cX11_leaves 35 = .ok (.ifCond .ne 7, 3) := by decide +kernel
theorem dX11_leaves_38 : decode cX11_leaves 38 = .ok (.iconst 1, 1) := by decide +kernel
theorem dX11_leaves_39 : decode cX11_leaves 39 = .ok (.goto 4, 3) := by decide +kernel
theorem dX11_leaves_42 : decode cX11_leaves 42 = .ok (.iconst 0, 1) := by decide +kernel
theorem dX11_leaves_43 : decode cX11_leaves 43 = .ok (.istore 5, 2) := by decide +kernel
theorem dX11_leaves_45 : decode cX11_leaves 45 = .ok (.iconst 0, 1) := by decide +kernel
theorem dX11_leaves_46 : decode cX11_leaves 46 = .ok (.istore 6, 2) := by decide +kernel
theorem dX11_leaves_48 : decode cX11_leaves 48 = .ok (.iload 6, 2) := by decide +kernel
theorem dX11_leaves_50 : decode cX11_leaves 50 = .ok (.aload_n 0, 1) := by decide +kernel
theorem dX11_leaves_51 : decode cX11_leaves 51 = .ok (.getfield 16, 3) := by decide +kernel
theorem dX11_leaves_54 : decode cX11_leaves 54 = .ok (.if_icmp .ge 46, 3) := by decide +kernel
theorem dX11_leaves_57 : decode cX11_leaves 57 = .ok (.iload 5, 2) := by decide +kernel
theorem dX11_leaves_59 : decode cX11_leaves 59 = .ok (.ifCond .ne 28, 3) := by decide +kernel
theorem dX11_leaves_62 : decode cX11_leaves 62 = .ok (.aload_n 0, 1) := by decide +kernel
theorem dX11_leaves_63 : decode cX11_leaves 63 = .ok (.getfield 69, 3) := by decide +kernel
theorem dX11_leaves_66 : decode cX11_leaves 66 = .ok (.iload 6, 2) := by decide +kernel
theorem dX11_leaves_68 : decode cX11_leaves 68 = .ok (.laload, 1) := by decide +kernel
theorem dX11_leaves_69 : decode cX11_leaves 69 = .ok (.lload_n 2, 1) := by decide +kernel
theorem dX11_leaves_70 : decode cX11_leaves 70 = .ok (.lcmp, 1) := by decide +kernel
theorem dX11_leaves_71 : decode cX11_leaves 71 = .ok (.ifCond .gt 16, 3) := by decide +kernel
theorem dX11_leaves_74 : decode cX11_leaves 74 = .ok (.aload_n 0, 1) := by decide +kernel
theorem dX11_leaves_75 : decode cX11_leaves 75 = .ok (.getfield 69, 3) := by decide +kernel
theorem dX11_leaves_78 : decode cX11_leaves 78 = .ok (.iload 6, 2) := by decide +kernel
theorem dX11_leaves_80 : decode cX11_leaves 80 = .ok (.laload, 1) := by decide +kernel
theorem dX11_leaves_81 : decode cX11_leaves 81 = .ok (.lload_n 2, 1) := by decide +kernel
theorem dX11_leaves_82 : decode cX11_leaves 82 = .ok (.lneg, 1) := by decide +kernel
theorem dX11_leaves_83 : decode cX11_leaves 83 = .ok (.lcmp, 1) := by decide +kernel
theorem dX11_leaves_84 : decode cX11_leaves 84 = .ok (.ifCond .ge 7, 3) := by decide +kernel
theorem dX11_leaves_87 : decode cX11_leaves 87 = .ok (.iconst 1, 1) := by decide +kernel
theorem dX11_leaves_88 : decode cX11_leaves 88 = .ok (.goto 4, 3) := by decide +kernel
theorem dX11_leaves_91 : decode cX11_leaves 91 = .ok (.iconst 0, 1) := by decide +kernel
theorem dX11_leaves_92 : decode cX11_leaves 92 = .ok (.istore 5, 2) := by decide +kernel
theorem dX11_leaves_94 : decode cX11_leaves 94 = .ok (.iinc 6 1, 3) := by decide +kernel
theorem dX11_leaves_97 : decode cX11_leaves 97 = .ok (.goto (-49), 3) := by decide +kernel
theorem dX11_leaves_100 : decode cX11_leaves 100 = .ok (.iload 5, 2) := by decide +kernel
theorem dX11_leaves_102 : decode cX11_leaves 102 = .ok (.ifCond .eq 6, 3) := by decide +kernel
theorem dX11_leaves_105 : decode cX11_leaves 105 = .ok (.iload 4, 2) := by decide +kernel
theorem dX11_leaves_107 : decode cX11_leaves 107 = .ok (.ireturn, 1) := by decide +kernel
theorem dX11_leaves_108 : decode cX11_leaves 108 = .ok (.aload_n 0, 1) := by decide +kernel
theorem dX11_leaves_109 : decode cX11_leaves 109 = .ok (.invokevirtual 160, 3) := by decide +kernel
theorem dX11_leaves_112 : decode cX11_leaves 112 = .ok (.iinc 4 1, 3) := by decide +kernel
theorem dX11_leaves_115 : decode cX11_leaves 115 = .ok (.goto (-93), 3) := by decide +kernel
theorem dX11_leaves_118 : decode cX11_leaves 118 = .ok (.bipush (-2), 2) := by decide +kernel
theorem dX11_leaves_120 : decode cX11_leaves 120 = .ok (.ireturn, 1) := by decide +kernel
set_option maxRecDepth 20000 in
theorem ggX11_box_X11_isSum : GoodIn wsX11_box wsX11_isSum := goodIn_r _ [7, 8, 14, 15, 16, 17, 18, 19, 20, 21, 22, 23, 24, 25, 26, 27, 28, 29, 30, 31, 32, 33, 34, 35, 36, 37, 38, 39, 40, 41, 42, 43, 44, 45, 46, 47, 48] (by decide +kernel) (by decide +kernel)
set_option maxRecDepth 20000 in
theorem gX11_box_X11_isSum : GoodIn wsX11_box (wsV RX11 119 RX11 yX11_isSum wsX11_isSum) := goodIn_app (goodIn_of _ (by decide +kernel)) ggX11_box_X11_isSum
set_option maxRecDepth 20000 in
theorem ggX11_box_X11_isNear : GoodIn wsX11_box wsX11_isNear := goodIn_r _ [11, 12, 13] (by decide +kernel) (by decide +kernel)
set_option maxRecDepth 20000 in
theorem gX11_box_X11_isNear : GoodIn wsX11_box (va_wsS RX11 123 yX11_isNear wsX11_isNear) := goodIn_app (goodIn_of _ (by decide +kernel)) ggX11_box_X11_isNear
theorem dX11_box_0 : decode cX11_box 0 = .ok (.aload_n 0, 1) := by decide +kernel
theorem dX11_box_1 : decode cX11_box 1 = .ok (.iload_n 1, 1) := by decide +kernel
theorem dX11_box_2 : decode cX11_box 2 = .ok (.invokevirtual 119, 3) := by decide +kernel
theorem dX11_box_5 : decode cX11_box 5 = .ok (.ifCond .eq 25, 3) := by decide +kernel
theorem dX11_box_8 : decode cX11_box 8 = .ok (.lload_n 2, 1) := by decide +kernel
theorem dX11_box_9 : decode cX11_box 9 = .ok (.lload 4, 2) := by decide +kernel
theorem dX11_box_11 : decode cX11_box 11 = .ok (.lcmp, 1) := by decide +kernel
theorem dX11_box_12 : decode cX11_box 12 = .ok (.ifCond .gt 18, 3) := by decide +kernel
theorem dX11_box_15 : decode cX11_box 15 = .ok (.lload_n 2, 1) := by decide +kernel
theorem dX11_box_16 : decode cX11_box 16 = .ok (.invokestatic 123, 3) := by decide +kernel
theorem dX11_box_19 : decode cX11_box 19 = .ok (.ifCond .eq 11, 3) := by decide +kernel
theorem dX11_box_22 : decode cX11_box 22 = .ok (.lload 4, 2) := by decide +kernel
theorem dX11_box_24 : decode cX11_box 24 = .ok (.invokestatic 123, 3) := by decide +kernel
theorem dX11_box_27 : decode cX11_box 27 = .ok (.ifCond .ne 5, 3) := by decide +kernel
theorem dX11_box_30 : decode cX11_box 30 = .ok (.iconst 0, 1) := by decide +kernel
theorem dX11_box_31 : decode cX11_box 31 = .ok (.ireturn, 1) := by decide +kernel
theorem dX11_box_32 : decode cX11_box 32 = .ok (.aload_n 0, 1) := by decide +kernel
theorem dX11_box_33 : decode cX11_box 33 = .ok (.getfield 42, 3) := by decide +kernel
theorem dX11_box_36 : decode cX11_box 36 = .ok (.iload_n 1, 1) := by decide +kernel
theorem dX11_box_37 : decode cX11_box 37 = .ok (.lload_n 2, 1) := by decide +kernel
theorem dX11_box_38 : decode cX11_box 38 = .ok (.lastore, 1) := by decide +kernel
theorem dX11_box_39 : decode cX11_box 39 = .ok (.aload_n 0, 1) := by decide +kernel
theorem dX11_box_40 : decode cX11_box 40 = .ok (.getfield 45, 3) := by decide +kernel
theorem dX11_box_43 : decode cX11_box 43 = .ok (.iload_n 1, 1) := by decide +kernel
theorem dX11_box_44 : decode cX11_box 44 = .ok (.lload 4, 2) := by decide +kernel
theorem dX11_box_46 : decode cX11_box 46 = .ok (.lastore, 1) := by decide +kernel
theorem dX11_box_47 : decode cX11_box 47 = .ok (.iconst 1, 1) := by decide +kernel
theorem dX11_box_48 : decode cX11_box 48 = .ok (.ireturn, 1) := by decide +kernel
set_option maxRecDepth 20000 in
theorem ggX11_kept__X11_isWish : GoodIn wsX11_kept_ wsX11_isWish := goodIn_r _ [10, 11, 12] (by decide +kernel) (by decide +kernel)
set_option maxRecDepth 20000 in
theorem gX11_kept__X11_isWish : GoodIn wsX11_kept_ (va_wsS RX11 145 yX11_isWish wsX11_isWish) := goodIn_app (goodIn_of _ (by decide +kernel)) ggX11_kept__X11_isWish
set_option maxRecDepth 20000 in
theorem ggX11_kept__X11_next : GoodIn wsX11_kept_ wsX11_next := goodIn_r _ [16, 17, 18, 5, 19, 6, 20, 21, 1, 22, 23, 24, 25, 26, 27, 28, 9, 29, 30, 31, 32, 33, 34, 35, 36, 37, 38, 39, 40, 41, 42, 43, 44, 45, 46, 47, 48, 49, 50, 51, 52, 53, 54, 55, 56, 57, 58, 59, 60, 61, 62, 63, 64, 65, 66, 67, 68, 69, 70, 71] (by decide +kernel) (by decide +kernel)
set_option maxRecDepth 20000 in
theorem gX11_kept__X11_next : GoodIn wsX11_kept_ (wsV RX11 138 RX11 yX11_next wsX11_next) := goodIn_app (goodIn_of _ (by decide +kernel)) ggX11_kept__X11_next
theorem dX11_kept__0 : decode cX11_kept_ 0 = .ok (.iload_n 1, 1) := by decide +kernel
theorem dX11_kept__1 : decode cX11_kept_ 1 = .ok (.invokestatic 145, 3) := by decide +kernel
theorem dX11_kept__4 : decode cX11_kept_ 4 = .ok (.ifCond .eq 15, 3) := by decide +kernel
theorem dX11_kept__7 : decode cX11_kept_ 7 = .ok (.iload_n 2, 1) := by decide +kernel
theorem dX11_kept__8 : decode cX11_kept_ 8 = .ok (.invokestatic 145, 3) := by decide +kernel
theorem dX11_kept__11 : decode cX11_kept_ 11 = .ok (.ifCond .eq 8, 3) := by decide +kernel
theorem dX11_kept__14 : decode cX11_kept_ 14 = .ok (.iload_n 1, 1) := by decide +kernel
theorem dX11_kept__15 : decode cX11_kept_ 15 = .ok (.iload_n 2, 1) := by decide +kernel
theorem dX11_kept__16 : decode cX11_kept_ 16 = .ok (.if_icmp .le 5, 3) := by decide +kernel
theorem dX11_kept__19 : decode cX11_kept_ 19 = .ok (.iconst (-1), 1) := by decide +kernel
theorem dX11_kept__20 : decode cX11_kept_ 20 = .ok (.ireturn, 1) := by decide +kernel
theorem dX11_kept__21 : decode cX11_kept_ 21 = .ok (.iload_n 2, 1) := by decide +kernel
theorem dX11_kept__22 : decode cX11_kept_ 22 = .ok (.iload_n 1, 1) := by decide +kernel
theorem dX11_kept__23 : decode cX11_kept_ 23 = .ok (.isub, 1) := by decide +kernel
theorem dX11_kept__24 : decode cX11_kept_ 24 = .ok (.i2l, 1) := by decide +kernel
theorem dX11_kept__25 : decode cX11_kept_ 25 = .ok (.lconst 1, 1) := by decide +kernel
theorem dX11_kept__26 : decode cX11_kept_ 26 = .ok (.ladd, 1) := by decide +kernel
theorem dX11_kept__27 : decode cX11_kept_ 27 = .ok (.lstore_n 3, 1) := by decide +kernel
theorem dX11_kept__28 : decode cX11_kept_ 28 = .ok (.iconst 0, 1) := by decide +kernel
theorem dX11_kept__29 : decode cX11_kept_ 29 = .ok (.istore 5, 2) := by decide +kernel
theorem dX11_kept__31 : decode cX11_kept_ 31 = .ok (.iload 5, 2) := by decide +kernel
theorem dX11_kept__33 : decode cX11_kept_ 33 = .ok (.aload_n 0, 1) := by decide +kernel
theorem dX11_kept__34 : decode cX11_kept_ 34 = .ok (.getfield 16, 3) := by decide +kernel
theorem dX11_kept__37 : decode cX11_kept_ 37 = .ok (.if_icmp .ge 56, 3) := by decide +kernel
theorem dX11_kept__40 : decode cX11_kept_ 40 = .ok (.aload_n 0, 1) := by decide +kernel
theorem dX11_kept__41 : decode cX11_kept_ 41 = .ok (.getfield 45, 3) := by decide +kernel
theorem dX11_kept__44 : decode cX11_kept_ 44 = .ok (.iload 5, 2) := by decide +kernel
theorem dX11_kept__46 : decode cX11_kept_ 46 = .ok (.laload, 1) := by decide +kernel
theorem dX11_kept__47 : decode cX11_kept_ 47 = .ok (.aload_n 0, 1) := by decide +kernel
theorem dX11_kept__48 : decode cX11_kept_ 48 = .ok (.getfield 42, 3) := by decide +kernel
theorem dX11_kept__51 : decode cX11_kept_ 51 = .ok (.iload 5, 2) := by decide +kernel
theorem dX11_kept__53 : decode cX11_kept_ 53 = .ok (.laload, 1) := by decide +kernel
theorem dX11_kept__54 : decode cX11_kept_ 54 = .ok (.lsub, 1) := by decide +kernel
theorem dX11_kept__55 : decode cX11_kept_ 55 = .ok (.lconst 1, 1) := by decide +kernel
theorem dX11_kept__56 : decode cX11_kept_ 56 = .ok (.ladd, 1) := by decide +kernel
theorem dX11_kept__57 : decode cX11_kept_ 57 = .ok (.lstore 6, 2) := by decide +kernel
theorem dX11_kept__59 : decode cX11_kept_ 59 = .ok (.lload 6, 2) := by decide +kernel
theorem dX11_kept__61 : decode cX11_kept_ 61 = .ok (.ldc2_w 166, 3) := by decide +kernel
theorem dX11_kept__64 : decode cX11_kept_ 64 = .ok (.lcmp, 1) := by decide +kernel
theorem dX11_kept__65 : decode cX11_kept_ 65 = .ok (.ifCond .gt 14, 3) := by decide +kernel
theorem dX11_kept__68 : decode cX11_kept_ 68 = .ok (.lload_n 3, 1) := by decide +kernel
theorem dX11_kept__69 : decode cX11_kept_ 69 = .ok (.lload 6, 2) := by decide +kernel
theorem dX11_kept__71 : decode cX11_kept_ 71 = .ok (.lmul, 1) := by decide +kernel
theorem dX11_kept__72 : decode cX11_kept_ 72 = .ok (.ldc2_w 166, 3) := by decide +kernel
theorem dX11_kept__75 : decode cX11_kept_ 75 = .ok (.lcmp, 1) := by decide +kernel
theorem dX11_kept__76 : decode cX11_kept_ 76 = .ok (.ifCond .le 6, 3) := by decide +kernel
theorem dX11_kept__79 : decode cX11_kept_ 79 = .ok (.bipush (-2), 2) := by decide +kernel
theorem dX11_kept__81 : decode cX11_kept_ 81 = .ok (.ireturn, 1) := by decide +kernel
theorem dX11_kept__82 : decode cX11_kept_ 82 = .ok (.lload_n 3, 1) := by decide +kernel
theorem dX11_kept__83 : decode cX11_kept_ 83 = .ok (.lload 6, 2) := by decide +kernel
theorem dX11_kept__85 : decode cX11_kept_ 85 = .ok (.lmul, 1) := by decide +kernel
theorem dX11_kept__86 : decode cX11_kept_ 86 = .ok (.lstore_n 3, 1) := by decide +kernel
theorem dX11_kept__87 : decode cX11_kept_ 87 = .ok (.iinc 5 1, 3) := by decide +kernel
theorem dX11_kept__90 : decode cX11_kept_ 90 = .ok (.goto (-59), 3) := by decide +kernel
theorem dX11_kept__93 : decode cX11_kept_ 93 = .ok (.lload_n 3, 1) := by decide +kernel
theorem dX11_kept__94 : decode cX11_kept_ 94 = .ok (.ldc2_w 166, 3) := by decide +kernel
theorem dX11_kept__97 : decode cX11_kept_ 97 = .ok (.lcmp, 1) := by decide +kernel
theorem dX11_kept__98 : decode cX11_kept_ 98 = .ok (.ifCond .le 6, 3) := by decide +kernel
theorem dX11_kept__101 : decode cX11_kept_ 101 = .ok (.bipush (-2), 2) := by decide +kernel
theorem dX11_kept__103 : decode cX11_kept_ 103 = .ok (.ireturn, 1) := by decide +kernel
theorem dX11_kept__104 : decode cX11_kept_ 104 = .ok (.lconst 0, 1) := by decide +kernel
theorem dX11_kept__105 : decode cX11_kept_ 105 = .ok (.lstore 5, 2) := by decide +kernel
theorem dX11_kept__107 : decode cX11_kept_ 107 = .ok (.lload 5, 2) := by decide +kernel
theorem dX11_kept__109 : decode cX11_kept_ 109 = .ok (.lload_n 3, 1) := by decide +kernel
theorem dX11_kept__110 : decode cX11_kept_ 110 = .ok (.lcmp, 1) := by decide +kernel
theorem dX11_kept__111 : decode cX11_kept_ 111 = .ok (.ifCond .ge 186, 3) := by decide +kernel
theorem dX11_kept__114 : decode cX11_kept_ 114 = .ok (.lload 5, 2) := by decide +kernel
theorem dX11_kept__116 : decode cX11_kept_ 116 = .ok (.lstore 7, 2) := by decide +kernel
theorem dX11_kept__118 : decode cX11_kept_ 118 = .ok (.iload_n 1, 1) := by decide +kernel
theorem dX11_kept__119 : decode cX11_kept_ 119 = .ok (.lload 7, 2) := by decide +kernel
theorem dX11_kept__121 : decode cX11_kept_ 121 = .ok (.iload_n 2, 1) := by decide +kernel
theorem dX11_kept__122 : decode cX11_kept_ 122 = .ok (.iload_n 1, 1) := by decide +kernel
theorem dX11_kept__123 : decode cX11_kept_ 123 = .ok (.isub, 1) := by decide +kernel
theorem dX11_kept__124 : decode cX11_kept_ 124 = .ok (.i2l, 1) := by decide +kernel
theorem dX11_kept__125 : decode cX11_kept_ 125 = .ok (.lconst 1, 1) := by decide +kernel
theorem dX11_kept__126 : decode cX11_kept_ 126 = .ok (.ladd, 1) := by decide +kernel
theorem dX11_kept__127 : decode cX11_kept_ 127 = .ok (.lrem, 1) := by decide +kernel
theorem dX11_kept__128 : decode cX11_kept_ 128 = .ok (.l2i, 1) := by decide +kernel
theorem dX11_kept__129 : decode cX11_kept_ 129 = .ok (.iadd, 1) := by decide +kernel
theorem dX11_kept__130 : decode cX11_kept_ 130 = .ok (.istore 9, 2) := by decide +kernel
theorem dX11_kept__132 : decode cX11_kept_ 132 = .ok (.lload 7, 2) := by decide +kernel
theorem dX11_kept__134 : decode cX11_kept_ 134 = .ok (.iload_n 2, 1) := by decide +kernel
theorem dX11_kept__135 : decode cX11_kept_ 135 = .ok (.iload_n 1, 1) := by decide +kernel
theorem dX11_kept__136 : decode cX11_kept_ 136 = .ok (.isub, 1) := by decide +kernel
theorem dX11_kept__137 : decode cX11_kept_ 137 = .ok (.i2l, 1) := by decide +kernel
theorem dX11_kept__138 : decode cX11_kept_ 138 = .ok (.lconst 1, 1) := by decide +kernel
theorem dX11_kept__139 : decode cX11_kept_ 139 = .ok (.ladd, 1) := by decide +kernel
theorem dX11_kept__140 : decode cX11_kept_ 140 = .ok (.ldiv, 1) := by decide +kernel
theorem dX11_kept__141 : decode cX11_kept_ 141 = .ok (.lstore 7, 2) := by decide +kernel
theorem dX11_kept__143 : decode cX11_kept_ 143 = .ok (.iconst 0, 1) := by decide +kernel
theorem dX11_kept__144 : decode cX11_kept_ 144 = .ok (.istore 10, 2) := by decide +kernel
theorem dX11_kept__146 : decode cX11_kept_ 146 = .ok (.iload 10, 2) := by decide +kernel
theorem dX11_kept__148 : decode cX11_kept_ 148 = .ok (.aload_n 0, 1) := by decide +kernel
theorem dX11_kept__149 : decode cX11_kept_ 149 = .ok (.getfield 16, 3) := by decide +kernel
theorem dX11_kept__152 : decode cX11_kept_ 152 = .ok (.if_icmp .ge 55, 3) := by decide +kernel
theorem dX11_kept__155 : decode cX11_kept_ 155 = .ok (.aload_n 0, 1) := by decide +kernel
theorem dX11_kept__156 : decode cX11_kept_ 156 = .ok (.getfield 45, 3) := by decide +kernel
theorem dX11_kept__159 : decode cX11_kept_ 159 = .ok (.iload 10, 2) := by decide +kernel
theorem dX11_kept__161 : decode cX11_kept_ 161 = .ok (.laload, 1) := by decide +kernel
theorem dX11_kept__162 : decode cX11_kept_ 162 = .ok (.aload_n 0, 1) := by decide +kernel
theorem dX11_kept__163 : decode cX11_kept_ 163 = .ok (.getfield 42, 3) := by decide +kernel
theorem dX11_kept__166 : decode cX11_kept_ 166 = .ok (.iload 10, 2) := by decide +kernel
theorem dX11_kept__168 : decode cX11_kept_ 168 = .ok (.laload, 1) := by decide +kernel
theorem dX11_kept__169 : decode cX11_kept_ 169 = .ok (.lsub, 1) := by decide +kernel
theorem dX11_kept__170 : decode cX11_kept_ 170 = .ok (.lconst 1, 1) := by decide +kernel
theorem dX11_kept__171 : decode cX11_kept_ 171 = .ok (.ladd, 1) := by decide +kernel
theorem dX11_kept__172 : decode cX11_kept_ 172 = .ok (.lstore 11, 2) := by decide +kernel
theorem dX11_kept__174 : decode cX11_kept_ 174 = .ok (.aload_n 0, 1) := by decide +kernel
theorem dX11_kept__175 : decode cX11_kept_ 175 = .ok (.getfield 66, 3) := by decide +kernel
theorem dX11_kept__178 : decode cX11_kept_ 178 = .ok (.iload 10, 2) := by decide +kernel
theorem dX11_kept__180 : decode cX11_kept_ 180 = .ok (.aload_n 0, 1) := by decide +kernel
theorem dX11_kept__181 : decode cX11_kept_ 181 = .ok (.getfield 42, 3) := by decide +kernel
theorem dX11_kept__184 : decode cX11_kept_ 184 = .ok (.iload 10, 2) := by decide +kernel
theorem dX11_kept__186 : decode cX11_kept_ 186 = .ok (.laload, 1) := by decide +kernel
theorem dX11_kept__187 : decode cX11_kept_ 187 = .ok (.lload 7, 2) := by decide +kernel
theorem dX11_kept__189 : decode cX11_kept_ 189 = .ok (.lload 11, 2) := by decide +kernel
theorem dX11_kept__191 : decode cX11_kept_ 191 = .ok (.lrem, 1) := by decide +kernel
theorem dX11_kept__192 : decode cX11_kept_ 192 = .ok (.ladd, 1) := by decide +kernel
theorem dX11_kept__193 : decode cX11_kept_ 193 = .ok (.lastore, 1) := by decide +kernel
theorem dX11_kept__194 : decode cX11_kept_ 194 = .ok (.lload 7, 2) := by decide +kernel
theorem dX11_kept__196 : decode cX11_kept_ 196 = .ok (.lload 11, 2) := by decide +kernel
theorem dX11_kept__198 : decode cX11_kept_ 198 = .ok (.ldiv, 1) := by decide +kernel
theorem dX11_kept__199 : decode cX11_kept_ 199 = .ok (.lstore 7, 2) := by decide +kernel
theorem dX11_kept__201 : decode cX11_kept_ 201 = .ok (.iinc 10 1, 3) := by decide +kernel
theorem dX11_kept__204 : decode cX11_kept_ 204 = .ok (.goto (-58), 3) := by decide +kernel
theorem dX11_kept__207 : decode cX11_kept_ 207 = .ok (.aload_n 0, 1) := by decide +kernel
theorem dX11_kept__208 : decode cX11_kept_ 208 = .ok (.iload 9, 2) := by decide +kernel
theorem dX11_kept__210 : decode cX11_kept_ 210 = .ok (.invokevirtual 138, 3) := by decide +kernel
theorem dX11_kept__213 : decode cX11_kept_ 213 = .ok (.istore 10, 2) := by decide +kernel
theorem dX11_kept__215 : decode cX11_kept_ 215 = .ok (.iconst 0, 1) := by decide +kernel
theorem dX11_kept__216 : decode cX11_kept_ 216 = .ok (.istore 11, 2) := by decide +kernel
theorem dX11_kept__218 : decode cX11_kept_ 218 = .ok (.iload 11, 2) := by decide +kernel
theorem dX11_kept__220 : decode cX11_kept_ 220 = .ok (.aload_n 0, 1) := by decide +kernel
theorem dX11_kept__221 : decode cX11_kept_ 221 = .ok (.getfield 16, 3) := by decide +kernel
theorem dX11_kept__224 : decode cX11_kept_ 224 = .ok (.if_icmp .ge 57, 3) := by decide +kernel
theorem dX11_kept__227 : decode cX11_kept_ 227 = .ok (.iload 10, 2) := by decide +kernel
theorem dX11_kept__229 : decode cX11_kept_ 229 = .ok (.ifCond .eq 52, 3) := by decide +kernel
theorem dX11_kept__232 : decode cX11_kept_ 232 = .ok (.aload_n 0, 1) := by decide +kernel
theorem dX11_kept__233 : decode cX11_kept_ 233 = .ok (.getfield 69, 3) := by decide +kernel
theorem dX11_kept__236 : decode cX11_kept_ 236 = .ok (.iload 11, 2) := by decide +kernel
theorem dX11_kept__238 : decode cX11_kept_ 238 = .ok (.laload, 1) := by decide +kernel
theorem dX11_kept__239 : decode cX11_kept_ 239 = .ok (.aload_n 0, 1) := by decide +kernel
theorem dX11_kept__240 : decode cX11_kept_ 240 = .ok (.getfield 42, 3) := by decide +kernel
theorem dX11_kept__243 : decode cX11_kept_ 243 = .ok (.iload 11, 2) := by decide +kernel
theorem dX11_kept__245 : decode cX11_kept_ 245 = .ok (.laload, 1) := by decide +kernel
theorem dX11_kept__246 : decode cX11_kept_ 246 = .ok (.lcmp, 1) := by decide +kernel
theorem dX11_kept__247 : decode cX11_kept_ 247 = .ok (.ifCond .lt 25, 3) := by decide +kernel
theorem dX11_kept__250 : decode cX11_kept_ 250 = .ok (.aload_n 0, 1) := by decide +kernel
theorem dX11_kept__251 : decode cX11_kept_ 251 = .ok (.getfield 69, 3) := by decide +kernel
theorem dX11_kept__254 : decode cX11_kept_ 254 = .ok (.iload 11, 2) := by decide +kernel
theorem dX11_kept__256 : decode cX11_kept_ 256 = .ok (.laload, 1) := by decide +kernel
theorem dX11_kept__257 : decode cX11_kept_ 257 = .ok (.aload_n 0, 1) := by decide +kernel
theorem dX11_kept__258 : decode cX11_kept_ 258 = .ok (.getfield 45, 3) := by decide +kernel
theorem dX11_kept__261 : decode cX11_kept_ 261 = .ok (.iload 11, 2) := by decide +kernel
theorem dX11_kept__263 : decode cX11_kept_ 263 = .ok (.laload, 1) := by decide +kernel
theorem dX11_kept__264 : decode cX11_kept_ 264 = .ok (.lcmp, 1) := by decide +kernel
theorem dX11_kept__265 : decode cX11_kept_ 265 = .ok (.ifCond .gt 7, 3) := by decide +kernel
theorem dX11_kept__268 : decode cX11_kept_ 268 = .ok (.iconst 1, 1) := by decide +kernel
theorem dX11_kept__269 : decode cX11_kept_ 269 = .ok (.goto 4, 3) := by decide +kernel
theorem dX11_kept__272 : decode cX11_kept_ 272 = .ok (.iconst 0, 1) := by decide +kernel
theorem dX11_kept__273 : decode cX11_kept_ 273 = .ok (.istore 10, 2) := by decide +kernel
theorem dX11_kept__275 : decode cX11_kept_ 275 = .ok (.iinc 11 1, 3) := by decide +kernel
theorem dX11_kept__278 : decode cX11_kept_ 278 = .ok (.goto (-60), 3) := by decide +kernel
theorem dX11_kept__281 : decode cX11_kept_ 281 = .ok (.iload 10, 2) := by decide +kernel
theorem dX11_kept__283 : decode cX11_kept_ 283 = .ok (.ifCond .ne 5, 3) := by decide +kernel
theorem dX11_kept__286 : decode cX11_kept_ 286 = .ok (.iconst 0, 1) := by decide +kernel
theorem dX11_kept__287 : decode cX11_kept_ 287 = .ok (.ireturn, 1) := by decide +kernel
theorem dX11_kept__288 : decode cX11_kept_ 288 = .ok (.lload 5, 2) := by decide +kernel
theorem dX11_kept__290 : decode cX11_kept_ 290 = .ok (.lconst 1, 1) := by decide +kernel
theorem dX11_kept__291 : decode cX11_kept_ 291 = .ok (.ladd, 1) := by decide +kernel
theorem dX11_kept__292 : decode cX11_kept_ 292 = .ok (.lstore 5, 2) := by decide +kernel
theorem dX11_kept__294 : decode cX11_kept_ 294 = .ok (.goto (-187), 3) := by decide +kernel
theorem dX11_kept__297 : decode cX11_kept_ 297 = .ok (.iconst 1, 1) := by decide +kernel
theorem dX11_kept__298 : decode cX11_kept_ 298 = .ok (.ireturn, 1) := by decide +kernel
theorem dX11_word_0 : decode cX11_word 0 = .ok (.iload_n 1, 1) := by decide +kernel
theorem dX11_word_1 : decode cX11_word 1 = .ok (.ifCond .lt 21, 3) := by decide +kernel
theorem dX11_word_4 : decode cX11_word 4 = .ok (.iload_n 1, 1) := by decide +kernel
theorem dX11_word_5 : decode cX11_word 5 = .ok (.aload_n 0, 1) := by decide +kernel
theorem dX11_word_6 : decode cX11_word 6 = .ok (.getfield 7, 3) := by decide +kernel
theorem dX11_word_9 : decode cX11_word 9 = .ok (.if_icmp .ge 13, 3) := by decide +kernel
theorem dX11_word_12 : decode cX11_word 12 = .ok (.iload_n 2, 1) := by decide +kernel
theorem dX11_word_13 : decode cX11_word 13 = .ok (.ifCond .lt 9, 3) := by decide +kernel
theorem dX11_word_16 : decode cX11_word 16 = .ok (.iload_n 2, 1) := by decide +kernel
theorem dX11_word_17 : decode cX11_word 17 = .ok (.ldc 134, 2) := by decide +kernel
theorem dX11_word_19 : decode cX11_word 19 = .ok (.if_icmp .le 7, 3) := by decide +kernel
theorem dX11_word_22 : decode cX11_word 22 = .ok (.iconst (-1), 1) := by decide +kernel
theorem dX11_word_23 : decode cX11_word 23 = .ok (.goto 29, 3) := by decide +kernel
theorem dX11_word_26 : decode cX11_word 26 = .ok (.iload_n 2, 1) := by decide +kernel
theorem dX11_word_27 : decode cX11_word 27 = .ok (.i2l, 1) := by decide +kernel
theorem dX11_word_28 : decode cX11_word 28 = .ok (.lconst 1, 1) := by decide +kernel
theorem dX11_word_29 : decode cX11_word 29 = .ok (.ladd, 1) := by decide +kernel
theorem dX11_word_30 : decode cX11_word 30 = .ok (.iload_n 1, 1) := by decide +kernel
theorem dX11_word_31 : decode cX11_word 31 = .ok (.i2l, 1) := by decide +kernel
theorem dX11_word_32 : decode cX11_word 32 = .ok (.lmul, 1) := by decide +kernel
theorem dX11_word_33 : decode cX11_word 33 = .ok (.aload_n 0, 1) := by decide +kernel
theorem dX11_word_34 : decode cX11_word 34 = .ok (.getfield 7, 3) := by decide +kernel
theorem dX11_word_37 : decode cX11_word 37 = .ok (.i2l, 1) := by decide +kernel
theorem dX11_word_38 : decode cX11_word 38 = .ok (.ldiv, 1) := by decide +kernel
theorem dX11_word_39 : decode cX11_word 39 = .ok (.iload_n 2, 1) := by decide +kernel
theorem dX11_word_40 : decode cX11_word 40 = .ok (.i2l, 1) := by decide +kernel
theorem dX11_word_41 : decode cX11_word 41 = .ok (.iload_n 1, 1) := by decide +kernel
theorem dX11_word_42 : decode cX11_word 42 = .ok (.i2l, 1) := by decide +kernel
theorem dX11_word_43 : decode cX11_word 43 = .ok (.lmul, 1) := by decide +kernel
theorem dX11_word_44 : decode cX11_word 44 = .ok (.aload_n 0, 1) := by decide +kernel
theorem dX11_word_45 : decode cX11_word 45 = .ok (.getfield 7, 3) := by decide +kernel
theorem dX11_word_48 : decode cX11_word 48 = .ok (.i2l, 1) := by decide +kernel
theorem dX11_word_49 : decode cX11_word 49 = .ok (.ldiv, 1) := by decide +kernel
theorem dX11_word_50 : decode cX11_word 50 = .ok (.lsub, 1) := by decide +kernel
theorem dX11_word_51 : decode cX11_word 51 = .ok (.l2i, 1) := by decide +kernel
theorem dX11_word_52 : decode cX11_word 52 = .ok (.ireturn, 1) := by decide +kernel
set_option maxRecDepth 20000 in
theorem ggX11_even_X11_kept : GoodIn wsX11_even wsX11_kept := goodIn_r _ [8, 9, 14, 15, 16, 17, 18, 19, 20, 21, 22, 23, 24, 25, 26, 27, 28, 29, 30, 31, 32, 33, 34, 35, 36, 37, 38, 39, 40, 41, 42, 43, 44, 45, 46, 47, 48] (by decide +kernel) (by decide +kernel)
set_option maxRecDepth 20000 in
theorem gX11_even_X11_kept : GoodIn wsX11_even (wsV RX11 152 RX11 yX11_kept wsX11_kept) := goodIn_app (goodIn_of _ (by decide +kernel)) ggX11_even_X11_kept
set_option maxRecDepth 20000 in
theorem ggX11_even_X11_latest : GoodIn wsX11_even wsX11_latest := goodIn_r _ [13, 9, 14, 15, 16, 17, 18, 19, 20, 21, 22, 23, 24, 25, 26, 27, 28, 29, 30, 31, 32, 33, 34, 35, 36, 37, 38, 39, 40, 41, 42, 43, 44, 45, 46, 47, 48] (by decide +kernel) (by decide +kernel)
set_option maxRecDepth 20000 in
theorem gX11_even_X11_latest : GoodIn wsX11_even (wsV RX11 156 RX11 yX11_latest wsX11_latest) := goodIn_app (goodIn_of _ (by decide +kernel)) ggX11_even_X11_latest
theorem dX11_even_0 : decode cX11_even 0 = .ok (.iload_n 1, 1) := by decide +kernel
theorem dX11_even_1 : decode cX11_even 1 = .ok (.iconst 1, 1) := by decide +kernel
theorem dX11_even_2 : decode cX11_even 2 = .ok (.if_icmp .lt 11, 3) := by decide +kernel
theorem dX11_even_5 : decode cX11_even 5 = .ok (.iload_n 1, 1) := by decide +kernel
theorem dX11_even_6 : decode cX11_even 6 = .ok (.aload_n 0, 1) := by decide +kernel
theorem dX11_even_7 : decode cX11_even 7 = .ok (.invokevirtual 152, 3) := by decide +kernel
theorem dX11_even_10 : decode cX11_even 10 = .ok (.if_icmp .le 5, 3) := by decide +kernel
theorem dX11_even_13 : decode cX11_even 13 = .ok (.iconst (-1), 1) := by decide +kernel
theorem dX11_even_14 : decode cX11_even 14 = .ok (.ireturn, 1) := by decide +kernel
theorem dX11_even_15 : decode cX11_even 15 = .ok (.iconst 1, 1) := by decide +kernel
theorem dX11_even_16 : decode cX11_even 16 = .ok (.istore_n 2, 1) := by decide +kernel
theorem dX11_even_17 : decode cX11_even 17 = .ok (.iload_n 2, 1) := by decide +kernel
theorem dX11_even_18 : decode cX11_even 18 = .ok (.iload_n 1, 1) := by decide +kernel
theorem dX11_even_19 : decode cX11_even 19 = .ok (.if_icmp .ge 115, 3) := by decide +kernel
theorem dX11_even_22 : decode cX11_even 22 = .ok (.ldc2_w 115, 3) := by decide +kernel
theorem dX11_even_25 : decode cX11_even 25 = .ok (.lstore_n 3, 1) := by decide +kernel
theorem dX11_even_26 : decode cX11_even 26 = .ok (.ldc2_w 117, 3) := by decide +kernel
theorem dX11_even_29 : decode cX11_even 29 = .ok (.lstore 5, 2) := by decide +kernel
theorem dX11_even_31 : decode cX11_even 31 = .ok (.iconst 0, 1) := by decide +kernel
theorem dX11_even_32 : decode cX11_even 32 = .ok (.istore 7, 2) := by decide +kernel
theorem dX11_even_34 : decode cX11_even 34 = .ok (.iload 7, 2) := by decide +kernel
theorem dX11_even_36 : decode cX11_even 36 = .ok (.iload_n 2, 1) := by decide +kernel
theorem dX11_even_37 : decode cX11_even 37 = .ok (.iadd, 1) := by decide +kernel
theorem dX11_even_38 : decode cX11_even 38 = .ok (.iload_n 1, 1) := by decide +kernel
theorem dX11_even_39 : decode cX11_even 39 = .ok (.if_icmp .gt 78, 3) := by decide +kernel
theorem dX11_even_42 : decode cX11_even 42 = .ok (.lconst 0, 1) := by decide +kernel
theorem dX11_even_43 : decode cX11_even 43 = .ok (.lstore 8, 2) := by decide +kernel
theorem dX11_even_45 : decode cX11_even 45 = .ok (.iconst 0, 1) := by decide +kernel
theorem dX11_even_46 : decode cX11_even 46 = .ok (.istore 10, 2) := by decide +kernel
theorem dX11_even_48 : decode cX11_even 48 = .ok (.iload 10, 2) := by decide +kernel
theorem dX11_even_50 : decode cX11_even 50 = .ok (.iload_n 2, 1) := by decide +kernel
theorem dX11_even_51 : decode cX11_even 51 = .ok (.if_icmp .ge 29, 3) := by decide +kernel
theorem dX11_even_54 : decode cX11_even 54 = .ok (.lload 8, 2) := by decide +kernel
theorem dX11_even_56 : decode cX11_even 56 = .ok (.aload_n 0, 1) := by decide +kernel
theorem dX11_even_57 : decode cX11_even 57 = .ok (.getfield 54, 3) := by decide +kernel
theorem dX11_even_60 : decode cX11_even 60 = .ok (.aload_n 0, 1) := by decide +kernel
theorem dX11_even_61 : decode cX11_even 61 = .ok (.iload 7, 2) := by decide +kernel
theorem dX11_even_63 : decode cX11_even 63 = .ok (.iload 10, 2) := by decide +kernel
theorem dX11_even_65 : decode cX11_even 65 = .ok (.iadd, 1) := by decide +kernel
theorem dX11_even_66 : decode cX11_even 66 = .ok (.invokevirtual 156, 3) := by decide +kernel
theorem dX11_even_69 : decode cX11_even 69 = .ok (.iaload, 1) := by decide +kernel
theorem dX11_even_70 : decode cX11_even 70 = .ok (.i2l, 1) := by decide +kernel
theorem dX11_even_71 : decode cX11_even 71 = .ok (.ladd, 1) := by decide +kernel
theorem dX11_even_72 : decode cX11_even 72 = .ok (.lstore 8, 2) := by decide +kernel
theorem dX11_even_74 : decode cX11_even 74 = .ok (.iinc 10 1, 3) := by decide +kernel
theorem dX11_even_77 : decode cX11_even 77 = .ok (.goto (-29), 3) := by decide +kernel
theorem dX11_even_80 : decode cX11_even 80 = .ok (.lload 8, 2) := by decide +kernel
theorem dX11_even_82 : decode cX11_even 82 = .ok (.lload_n 3, 1) := by decide +kernel
theorem dX11_even_83 : decode cX11_even 83 = .ok (.lcmp, 1) := by decide +kernel
theorem dX11_even_84 : decode cX11_even 84 = .ok (.ifCond .ge 8, 3) := by decide +kernel
theorem dX11_even_87 : decode cX11_even 87 = .ok (.lload 8, 2) := by decide +kernel
theorem dX11_even_89 : decode cX11_even 89 = .ok (.goto 4, 3) := by decide +kernel
theorem dX11_even_92 : decode cX11_even 92 = .ok (.lload_n 3, 1) := by decide +kernel
theorem dX11_even_93 : decode cX11_even 93 = .ok (.lstore_n 3, 1) := by decide +kernel
theorem dX11_even_94 : decode cX11_even 94 = .ok (.lload 8, 2) := by decide +kernel
theorem dX11_even_96 : decode cX11_even 96 = .ok (.lload 5, 2) := by decide +kernel
theorem dX11_even_98 : decode cX11_even 98 = .ok (.lcmp, 1) := by decide +kernel
theorem dX11_even_99 : decode cX11_even 99 = .ok (.ifCond .le 8, 3) := by decide +kernel
theorem dX11_even_102 : decode cX11_even 102 = .ok (.lload 8, 2) := by decide +kernel
theorem dX11_even_104 : decode cX11_even 104 = .ok (.goto 5, 3) := by decide +kernel
theorem dX11_even_107 : decode cX11_even 107 = .ok (.lload 5, 2) := by decide +kernel
theorem dX11_even_109 : decode cX11_even 109 = .ok (.lstore 5, 2) := by decide +kernel
theorem dX11_even_111 : decode cX11_even 111 = .ok (.iinc 7 1, 3) := by decide +kernel
theorem dX11_even_114 : decode cX11_even 114 = .ok (.goto (-80), 3) := by decide +kernel
theorem dX11_even_117 : decode cX11_even 117 = .ok (.lload 5, 2) := by decide +kernel
theorem dX11_even_119 : decode cX11_even 119 = .ok (.lload_n 3, 1) := by decide +kernel
theorem dX11_even_120 : decode cX11_even 120 = .ok (.lsub, 1) := by decide +kernel
theorem dX11_even_121 : decode cX11_even 121 = .ok (.lconst 1, 1) := by decide +kernel
theorem dX11_even_122 : decode cX11_even 122 = .ok (.lcmp, 1) := by decide +kernel
theorem dX11_even_123 : decode cX11_even 123 = .ok (.ifCond .le 5, 3) := by decide +kernel
theorem dX11_even_126 : decode cX11_even 126 = .ok (.iconst 0, 1) := by decide +kernel
theorem dX11_even_127 : decode cX11_even 127 = .ok (.ireturn, 1) := by decide +kernel
theorem dX11_even_128 : decode cX11_even 128 = .ok (.iinc 2 1, 3) := by decide +kernel
theorem dX11_even_131 : decode cX11_even 131 = .ok (.goto (-114), 3) := by decide +kernel
theorem dX11_even_134 : decode cX11_even 134 = .ok (.iconst 1, 1) := by decide +kernel
theorem dX11_even_135 : decode cX11_even 135 = .ok (.ireturn, 1) := by decide +kernel
theorem dX11_weight_0 : decode cX11_weight 0 = .ok (.aload_n 0, 1) := by decide +kernel
theorem dX11_weight_1 : decode cX11_weight 1 = .ok (.getfield 168, 3) := by decide +kernel
theorem dX11_weight_4 : decode cX11_weight 4 = .ok (.bipush 64, 2) := by decide +kernel
theorem dX11_weight_6 : decode cX11_weight 6 = .ok (.if_icmp .eq 17, 3) := by decide +kernel
theorem dX11_weight_9 : decode cX11_weight 9 = .ok (.iload_n 1, 1) := by decide +kernel
theorem dX11_weight_10 : decode cX11_weight 10 = .ok (.sipush (-1000), 3) := by decide +kernel
theorem dX11_weight_13 : decode cX11_weight 13 = .ok (.if_icmp .lt 10, 3) := by decide +kernel
theorem dX11_weight_16 : decode cX11_weight 16 = .ok (.iload_n 1, 1) := by decide +kernel
theorem dX11_weight_17 : decode cX11_weight 17 = .ok (.sipush 1000, 3) := by decide +kernel
theorem dX11_weight_20 : decode cX11_weight 20 = .ok (.if_icmp .le 5, 3) := by decide +kernel
theorem dX11_weight_23 : decode cX11_weight 23 = .ok (.iconst (-1), 1) := by decide +kernel
theorem dX11_weight_24 : decode cX11_weight 24 = .ok (.ireturn, 1) := by decide +kernel
theorem dX11_weight_25 : decode cX11_weight 25 = .ok (.aload_n 0, 1) := by decide +kernel
theorem dX11_weight_26 : decode cX11_weight 26 = .ok (.getfield 63, 3) := by decide +kernel
theorem dX11_weight_29 : decode cX11_weight 29 = .ok (.aload_n 0, 1) := by decide +kernel
theorem dX11_weight_30 : decode cX11_weight 30 = .ok (.getfield 168, 3) := by decide +kernel
theorem dX11_weight_33 : decode cX11_weight 33 = .ok (.iload_n 1, 1) := by decide +kernel
theorem dX11_weight_34 : decode cX11_weight 34 = .ok (.iastore, 1) := by decide +kernel
theorem dX11_weight_35 : decode cX11_weight 35 = .ok (.aload_n 0, 1) := by decide +kernel
theorem dX11_weight_36 : decode cX11_weight 36 = .ok (.dup, 1) := by decide +kernel
theorem dX11_weight_37 : decode cX11_weight 37 = .ok (.getfield 168, 3) := by decide +kernel
theorem dX11_weight_40 : decode cX11_weight 40 = .ok (.iconst 1, 1) := by decide +kernel
theorem dX11_weight_41 : decode cX11_weight 41 = .ok (.iadd, 1) := by decide +kernel
theorem dX11_weight_42 : decode cX11_weight 42 = .ok (.putfield 168, 3) := by decide +kernel
theorem dX11_weight_45 : decode cX11_weight 45 = .ok (.aload_n 0, 1) := by decide +kernel
theorem dX11_weight_46 : decode cX11_weight 46 = .ok (.getfield 168, 3) := by decide +kernel
theorem dX11_weight_49 : decode cX11_weight 49 = .ok (.ireturn, 1) := by decide +kernel
theorem dX11_clear_0 : decode cX11_clear 0 = .ok (.aload_n 0, 1) := by decide +kernel
theorem dX11_clear_1 : decode cX11_clear 1 = .ok (.getfield 168, 3) := by decide +kernel
theorem dX11_clear_4 : decode cX11_clear 4 = .ok (.istore_n 1, 1) := by decide +kernel
theorem dX11_clear_5 : decode cX11_clear 5 = .ok (.aload_n 0, 1) := by decide +kernel
theorem dX11_clear_6 : decode cX11_clear 6 = .ok (.iconst 0, 1) := by decide +kernel
theorem dX11_clear_7 : decode cX11_clear 7 = .ok (.putfield 168, 3) := by decide +kernel
theorem dX11_clear_10 : decode cX11_clear 10 = .ok (.iload_n 1, 1) := by decide +kernel
theorem dX11_clear_11 : decode cX11_clear 11 = .ok (.ireturn, 1) := by decide +kernel
set_option maxRecDepth 20000 in
theorem ggX11_read_X11_kept : GoodIn wsX11_read wsX11_kept := goodIn_r _ [8, 9, 14, 15, 16, 17, 18, 19, 20, 21, 22, 23, 24, 25, 26, 27, 28, 29, 30, 31, 32, 33, 34, 35, 36, 37, 38, 39, 40, 41, 42, 43, 44, 45, 46, 47, 48] (by decide +kernel) (by decide +kernel)
set_option maxRecDepth 20000 in
theorem gX11_read_X11_kept : GoodIn wsX11_read (wsV RX11 152 RX11 yX11_kept wsX11_kept) := goodIn_app (goodIn_of _ (by decide +kernel)) ggX11_read_X11_kept
set_option maxRecDepth 20000 in
theorem ggX11_read_X11_latest : GoodIn wsX11_read wsX11_latest := goodIn_r _ [13, 9, 14, 15, 16, 17, 18, 19, 20, 21, 22, 23, 24, 25, 26, 27, 28, 29, 30, 31, 32, 33, 34, 35, 36, 37, 38, 39, 40, 41, 42, 43, 44, 45, 46, 47, 48] (by decide +kernel) (by decide +kernel)
set_option maxRecDepth 20000 in
theorem gX11_read_X11_latest : GoodIn wsX11_read (wsV RX11 156 RX11 yX11_latest wsX11_latest) := goodIn_app (goodIn_of _ (by decide +kernel)) ggX11_read_X11_latest
theorem dX11_read_0 : decode cX11_read 0 = .ok (.lconst 0, 1) := by decide +kernel
theorem dX11_read_1 : decode cX11_read 1 = .ok (.lstore_n 1, 1) := by decide +kernel
theorem dX11_read_2 : decode cX11_read 2 = .ok (.iconst 0, 1) := by decide +kernel
theorem dX11_read_3 : decode cX11_read 3 = .ok (.istore_n 3, 1) := by decide +kernel
theorem dX11_read_4 : decode cX11_read 4 = .ok (.iload_n 3, 1) := by decide +kernel
theorem dX11_read_5 : decode cX11_read 5 = .ok (.aload_n 0, 1) := by decide +kernel
theorem dX11_read_6 : decode cX11_read 6 = .ok (.getfield 168, 3) := by decide +kernel
theorem dX11_read_9 : decode cX11_read 9 = .ok (.if_icmp .ge 39, 3) := by decide +kernel
theorem dX11_read_12 : decode cX11_read 12 = .ok (.iload_n 3, 1) := by decide +kernel
theorem dX11_read_13 : decode cX11_read 13 = .ok (.aload_n 0, 1) := by decide +kernel
theorem dX11_read_14 : decode cX11_read 14 = .ok (.invokevirtual 152, 3) := by decide +kernel
theorem dX11_read_17 : decode cX11_read 17 = .ok (.if_icmp .ge 31, 3) := by decide +kernel
theorem dX11_read_20 : decode cX11_read 20 = .ok (.lload_n 1, 1) := by decide +kernel
theorem dX11_read_21 : decode cX11_read 21 = .ok (.aload_n 0, 1) := by decide +kernel
theorem dX11_read_22 : decode cX11_read 22 = .ok (.getfield 63, 3) := by decide +kernel
theorem dX11_read_25 : decode cX11_read 25 = .ok (.iload_n 3, 1) := by decide +kernel
theorem dX11_read_26 : decode cX11_read 26 = .ok (.iaload, 1) := by decide +kernel
theorem dX11_read_27 : decode cX11_read 27 = .ok (.i2l, 1) := by decide +kernel
theorem dX11_read_28 : decode cX11_read 28 = .ok (.aload_n 0, 1) := by decide +kernel
theorem dX11_read_29 : decode cX11_read 29 = .ok (.getfield 54, 3) := by decide +kernel
theorem dX11_read_32 : decode cX11_read 32 = .ok (.aload_n 0, 1) := by decide +kernel
theorem dX11_read_33 : decode cX11_read 33 = .ok (.iload_n 3, 1) := by decide +kernel
theorem dX11_read_34 : decode cX11_read 34 = .ok (.invokevirtual 156, 3) := by decide +kernel
theorem dX11_read_37 : decode cX11_read 37 = .ok (.iaload, 1) := by decide +kernel
theorem dX11_read_38 : decode cX11_read 38 = .ok (.i2l, 1) := by decide +kernel
theorem dX11_read_39 : decode cX11_read 39 = .ok (.lmul, 1) := by decide +kernel
theorem dX11_read_40 : decode cX11_read 40 = .ok (.ladd, 1) := by decide +kernel
theorem dX11_read_41 : decode cX11_read 41 = .ok (.lstore_n 1, 1) := by decide +kernel
theorem dX11_read_42 : decode cX11_read 42 = .ok (.iinc 3 1, 3) := by decide +kernel
theorem dX11_read_45 : decode cX11_read 45 = .ok (.goto (-41), 3) := by decide +kernel
theorem dX11_read_48 : decode cX11_read 48 = .ok (.lload_n 1, 1) := by decide +kernel
theorem dX11_read_49 : decode cX11_read 49 = .ok (.lreturn, 1) := by decide +kernel
theorem dX11_floor_0 : decode cX11_floor 0 = .ok (.lload_n 0, 1) := by decide +kernel
theorem dX11_floor_1 : decode cX11_floor 1 = .ok (.lload_n 2, 1) := by decide +kernel
theorem dX11_floor_2 : decode cX11_floor 2 = .ok (.ldiv, 1) := by decide +kernel
theorem dX11_floor_3 : decode cX11_floor 3 = .ok (.lstore 4, 2) := by decide +kernel
theorem dX11_floor_5 : decode cX11_floor 5 = .ok (.lload 4, 2) := by decide +kernel
theorem dX11_floor_7 : decode cX11_floor 7 = .ok (.lload_n 2, 1) := by decide +kernel
theorem dX11_floor_8 : decode cX11_floor 8 = .ok (.lmul, 1) := by decide +kernel
theorem dX11_floor_9 : decode cX11_floor 9 = .ok (.lload_n 0, 1) := by decide +kernel
theorem dX11_floor_10 : decode cX11_floor 10 = .ok (.lcmp, 1) := by decide +kernel
theorem dX11_floor_11 : decode cX11_floor 11 = .ok (.ifCond .le 10, 3) := by decide +kernel
theorem dX11_floor_14 : decode cX11_floor 14 = .ok (.lload 4, 2) := by decide +kernel
theorem dX11_floor_16 : decode cX11_floor 16 = .ok (.lconst 1, 1) := by decide +kernel
theorem dX11_floor_17 : decode cX11_floor 17 = .ok (.lsub, 1) := by decide +kernel
theorem dX11_floor_18 : decode cX11_floor 18 = .ok (.goto 5, 3) := by decide +kernel
theorem dX11_floor_21 : decode cX11_floor 21 = .ok (.lload 4, 2) := by decide +kernel
theorem dX11_floor_23 : decode cX11_floor 23 = .ok (.lreturn, 1) := by decide +kernel
set_option maxRecDepth 20000 in
theorem ggX11_back_X11_floor : GoodIn wsX11_back wsX11_floor := goodIn_r _ [14] (by decide +kernel) (by decide +kernel)
set_option maxRecDepth 20000 in
theorem gX11_back_X11_floor : GoodIn wsX11_back (va_wsS RX11 175 yX11_floor wsX11_floor) := goodIn_app (goodIn_of _ (by decide +kernel)) ggX11_back_X11_floor
theorem dX11_back_0 : decode cX11_back 0 = .ok (.iload_n 1, 1) := by decide +kernel
theorem dX11_back_1 : decode cX11_back 1 = .ok (.iconst 1, 1) := by decide +kernel
theorem dX11_back_2 : decode cX11_back 2 = .ok (.if_icmp .lt 51, 3) := by decide +kernel
theorem dX11_back_5 : decode cX11_back 5 = .ok (.iload_n 1, 1) := by decide +kernel
theorem dX11_back_6 : decode cX11_back 6 = .ok (.sipush 256, 3) := by decide +kernel
