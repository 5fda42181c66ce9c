theorem dX9_leastOftenOn_31 : decode cX9_leastOftenOn 31 = .ok (.getfield 15, 3) := by decide +kernel
theorem dX9_leastOftenOn_34 : decode cX9_leastOftenOn 34 = .ok (.iload_n 2, 1) := by decide +kernel
theorem dX9_leastOftenOn_35 : decode cX9_leastOftenOn 35 = .ok (.iaload, 1) := by decide +kernel
theorem dX9_leastOftenOn_36 : decode cX9_leastOftenOn 36 = .ok (.aload_n 0, 1) := by decide +kernel
theorem dX9_leastOftenOn_37 : decode cX9_leastOftenOn 37 = .ok (.getfield 15, 3) := by decide +kernel
theorem dX9_leastOftenOn_40 : decode cX9_leastOftenOn 40 = .ok (.iload_n 1, 1) := by decide +kernel
theorem dX9_leastOftenOn_41 : decode cX9_leastOftenOn 41 = .ok (.iaload, 1) := by decide +kernel
theorem dX9_leastOftenOn_42 : decode cX9_leastOftenOn 42 = .ok (.if_icmp .ge 5, 3) := by decide +kernel
theorem dX9_leastOftenOn_45 : decode cX9_leastOftenOn 45 = .ok (.iload_n 2, 1) := by decide +kernel
theorem dX9_leastOftenOn_46 : decode cX9_leastOftenOn 46 = .ok (.istore_n 1, 1) := by decide +kernel
theorem dX9_leastOftenOn_47 : decode cX9_leastOftenOn 47 = .ok (.iinc 2 1, 3) := by decide +kernel
theorem dX9_leastOftenOn_50 : decode cX9_leastOftenOn 50 = .ok (.goto (-46), 3) := by decide +kernel
theorem dX9_leastOftenOn_53 : decode cX9_leastOftenOn 53 = .ok (.iload_n 1, 1) := by decide +kernel
theorem dX9_leastOftenOn_54 : decode cX9_leastOftenOn 54 = .ok (.ireturn, 1) := by decide +kernel
theorem dX9_mostLessLeast_0 : decode cX9_mostLessLeast 0 = .ok (.aload_n 0, 1) := by decide +kernel
theorem dX9_mostLessLeast_1 : decode cX9_mostLessLeast 1 = .ok (.getfield 15, 3) := by decide +kernel
theorem dX9_mostLessLeast_4 : decode cX9_mostLessLeast 4 = .ok (.iconst 0, 1) := by decide +kernel
theorem dX9_mostLessLeast_5 : decode cX9_mostLessLeast 5 = .ok (.iaload, 1) := by decide +kernel
theorem dX9_mostLessLeast_6 : decode cX9_mostLessLeast 6 = .ok (.istore_n 1, 1) := by decide +kernel
theorem dX9_mostLessLeast_7 : decode cX9_mostLessLeast 7 = .ok (.aload_n 0, 1) := by decide +kernel
theorem dX9_mostLessLeast_8 : decode cX9_mostLessLeast 8 = .ok (.getfield 15, 3) := by decide +kernel
theorem dX9_mostLessLeast_11 : decode cX9_mostLessLeast 11 = .ok (.iconst 0, 1) := by decide +kernel
theorem dX9_mostLessLeast_12 : decode cX9_mostLessLeast 12 = .ok (.iaload, 1) := by decide +kernel
theorem dX9_mostLessLeast_13 : decode cX9_mostLessLeast 13 = .ok (.istore_n 2, 1) := by decide +kernel
theorem dX9_mostLessLeast_14 : decode cX9_mostLessLeast 14 = .ok (.iconst 1, 1) := by decide +kernel
theorem dX9_mostLessLeast_15 : decode cX9_mostLessLeast 15 = .ok (.istore_n 3, 1) := by decide +kernel
theorem dX9_mostLessLeast_16 : decode cX9_mostLessLeast 16 = .ok (.iload_n 3, 1) := by decide +kernel
theorem dX9_mostLessLeast_17 : decode cX9_mostLessLeast 17 = .ok (.aload_n 0, 1) := by decide +kernel
theorem dX9_mostLessLeast_18 : decode cX9_mostLessLeast 18 = .ok (.getfield 19, 3) := by decide +kernel
theorem dX9_mostLessLeast_21 : decode cX9_mostLessLeast 21 = .ok (.if_icmp .ge 31, 3) := by decide +kernel
theorem dX9_mostLessLeast_24 : decode cX9_mostLessLeast 24 = .ok (.iload_n 1, 1) := by decide +kernel
theorem dX9_mostLessLeast_25 : decode cX9_mostLessLeast 25 = .ok (.aload_n 0, 1) := by decide +kernel
theorem dX9_mostLessLeast_26 : decode cX9_mostLessLeast 26 = .ok (.getfield 15, 3) := by decide +kernel
theorem dX9_mostLessLeast_29 : decode cX9_mostLessLeast 29 = .ok (.iload_n 3, 1) := by decide +kernel
theorem dX9_mostLessLeast_30 : decode cX9_mostLessLeast 30 = .ok (.iaload, 1) := by decide +kernel
theorem dX9_mostLessLeast_31 : decode cX9_mostLessLeast 31 = .ok (.invokestatic 32, 3) := by decide +kernel
theorem dX9_mostLessLeast_34 : decode cX9_mostLessLeast 34 = .ok (.istore_n 1, 1) := by decide +kernel
theorem dX9_mostLessLeast_35 : decode cX9_mostLessLeast 35 = .ok (.iload_n 2, 1) := by decide +kernel
theorem dX9_mostLessLeast_36 : decode cX9_mostLessLeast 36 = .ok (.aload_n 0, 1) := by decide +kernel
theorem dX9_mostLessLeast_37 : decode cX9_mostLessLeast 37 = .ok (.getfield 15, 3) := by decide +kernel
theorem dX9_mostLessLeast_40 : decode cX9_mostLessLeast 40 = .ok (.iload_n 3, 1) := by decide +kernel
theorem dX9_mostLessLeast_41 : decode cX9_mostLessLeast 41 = .ok (.iaload, 1) := by decide +kernel
theorem dX9_mostLessLeast_42 : decode cX9_mostLessLeast 42 = .ok (.invokestatic 38, 3) := by decide +kernel
theorem dX9_mostLessLeast_45 : decode cX9_mostLessLeast 45 = .ok (.istore_n 2, 1) := by decide +kernel
theorem dX9_mostLessLeast_46 : decode cX9_mostLessLeast 46 = .ok (.iinc 3 1, 3) := by decide +kernel
theorem dX9_mostLessLeast_49 : decode cX9_mostLessLeast 49 = .ok (.goto (-33), 3) := by decide +kernel
theorem dX9_mostLessLeast_52 : decode cX9_mostLessLeast 52 = .ok (.iload_n 2, 1) := by decide +kernel
theorem dX9_mostLessLeast_53 : decode cX9_mostLessLeast 53 = .ok (.iload_n 1, 1) := by decide +kernel
theorem dX9_mostLessLeast_54 : decode cX9_mostLessLeast 54 = .ok (.isub, 1) := by decide +kernel
theorem dX9_mostLessLeast_55 : decode cX9_mostLessLeast 55 = .ok (.ireturn, 1) := by decide +kernel
set_option maxRecDepth 20000 in
theorem ggX10_init_X7_init : GoodIn wsX10_init wsX7_init := goodIn_r _ [30, 31, 2, 3, 32, 33, 34, 35, 111, 112, 113] (by decide +kernel) (by decide +kernel)
set_option maxRecDepth 20000 in
theorem gX10_init_X7_init : GoodIn wsX10_init (wsX7_init) := ggX10_init_X7_init
set_option maxRecDepth 20000 in
theorem ggX10_init_X4_init : GoodIn wsX10_init wsX4_init := goodIn_r _ [38, 39, 2, 3, 40, 41, 42, 43, 44, 45, 46, 47, 48, 49, 50, 51, 52, 53, 54, 55, 56, 57, 58, 34, 59, 60, 61, 62, 63, 64, 65, 66, 67, 68, 69, 70, 71, 72, 73, 74, 75, 76, 77, 78, 79, 80, 81, 82, 83, 84, 85, 86, 87, 142, 143, 144, 145, 146, 120, 121, 122, 123, 124, 125, 126, 127, 128, 147, 148, 149, 150, 151, 152, 153, 154, 155, 156, 157, 158, 159, 160, 161, 162, 163, 164] (by decide +kernel) (by decide +kernel)
set_option maxRecDepth 20000 in
theorem gX10_init_X4_init : GoodIn wsX10_init (wsX4_init) := ggX10_init_X4_init
set_option maxRecDepth 20000 in
theorem ggX10_init_X6_init : GoodIn wsX10_init wsX6_init := goodIn_r _ [90, 91, 2, 3, 48, 92, 93, 94, 129, 130, 131, 132] (by decide +kernel) (by decide +kernel)
set_option maxRecDepth 20000 in
theorem gX10_init_X6_init : GoodIn wsX10_init (wsX6_init) := ggX10_init_X6_init
set_option maxRecDepth 20000 in
theorem ggX10_init_X0_init : GoodIn wsX10_init wsX0_init := goodIn_r _ [96, 97, 2, 3, 48, 98, 99, 100, 101, 133, 134, 135, 136] (by decide +kernel) (by decide +kernel)
set_option maxRecDepth 20000 in
theorem gX10_init_X0_init_n36 : GoodIn wsX10_init (wsX0_init) := ggX10_init_X0_init
set_option maxRecDepth 20000 in
theorem ggX10_init_X2_init : GoodIn wsX10_init wsX2_init := goodIn_r _ [103, 104, 2, 3, 34, 105, 137, 138] (by decide +kernel) (by decide +kernel)
set_option maxRecDepth 20000 in
theorem gX10_init_X2_init_n43 : GoodIn wsX10_init (wsX2_init) := ggX10_init_X2_init
set_option maxRecDepth 20000 in
theorem ggX10_init_X1_init : GoodIn wsX10_init wsX1_init := goodIn_r _ [108, 109, 2, 3, 110, 139, 140, 141] (by decide +kernel) (by decide +kernel)
set_option maxRecDepth 20000 in
theorem gX10_init_X1_init : GoodIn wsX10_init (wsX1_init) := ggX10_init_X1_init
theorem dX10_init_0 : decode cX10_init 0 = .ok (.aload_n 0, 1) := by decide +kernel
theorem dX10_init_1 : decode cX10_init 1 = .ok (.invokespecial 1, 3) := by decide +kernel
theorem dX10_init_4 : decode cX10_init 4 = .ok (.aload_n 0, 1) := by decide +kernel
theorem dX10_init_5 : decode cX10_init 5 = .ok (.new 7, 3) := by decide +kernel
theorem dX10_init_8 : decode cX10_init 8 = .ok (.dup, 1) := by decide +kernel
theorem dX10_init_9 : decode cX10_init 9 = .ok (.invokespecial 9, 3) := by decide +kernel
theorem dX10_init_12 : decode cX10_init 12 = .ok (.putfield 10, 3) := by decide +kernel
theorem dX10_init_15 : decode cX10_init 15 = .ok (.aload_n 0, 1) := by decide +kernel
theorem dX10_init_16 : decode cX10_init 16 = .ok (.new 16, 3) := by decide +kernel
theorem dX10_init_19 : decode cX10_init 19 = .ok (.dup, 1) := by decide +kernel
theorem dX10_init_20 : decode cX10_init 20 = .ok (.aload_n 0, 1) := by decide +kernel
theorem dX10_init_21 : decode cX10_init 21 = .ok (.getfield 10, 3) := by decide +kernel
theorem dX10_init_24 : decode cX10_init 24 = .ok (.invokespecial 18, 3) := by decide +kernel
theorem dX10_init_27 : decode cX10_init 27 = .ok (.putfield 21, 3) := by decide +kernel
theorem dX10_init_30 : decode cX10_init 30 = .ok (.aload_n 0, 1) := by decide +kernel
theorem dX10_init_31 : decode cX10_init 31 = .ok (.new 25, 3) := by decide +kernel
theorem dX10_init_34 : decode cX10_init 34 = .ok (.dup, 1) := by decide +kernel
theorem dX10_init_35 : decode cX10_init 35 = .ok (.aload_n 0, 1) := by decide +kernel
theorem dX10_init_36 : decode cX10_init 36 = .ok (.getfield 21, 3) := by decide +kernel
theorem dX10_init_39 : decode cX10_init 39 = .ok (.invokespecial 27, 3) := by decide +kernel
theorem dX10_init_42 : decode cX10_init 42 = .ok (.putfield 30, 3) := by decide +kernel
theorem dX10_init_45 : decode cX10_init 45 = .ok (.aload_n 0, 1) := by decide +kernel
theorem dX10_init_46 : decode cX10_init 46 = .ok (.new 34, 3) := by decide +kernel
theorem dX10_init_49 : decode cX10_init 49 = .ok (.dup, 1) := by decide +kernel
theorem dX10_init_50 : decode cX10_init 50 = .ok (.invokespecial 36, 3) := by decide +kernel
theorem dX10_init_53 : decode cX10_init 53 = .ok (.putfield 37, 3) := by decide +kernel
theorem dX10_init_56 : decode cX10_init 56 = .ok (.aload_n 0, 1) := by decide +kernel
theorem dX10_init_57 : decode cX10_init 57 = .ok (.new 41, 3) := by decide +kernel
theorem dX10_init_60 : decode cX10_init 60 = .ok (.dup, 1) := by decide +kernel
theorem dX10_init_61 : decode cX10_init 61 = .ok (.invokespecial 43, 3) := by decide +kernel
theorem dX10_init_64 : decode cX10_init 64 = .ok (.putfield 44, 3) := by decide +kernel
theorem dX10_init_67 : decode cX10_init 67 = .ok (.aload_n 0, 1) := by decide +kernel
theorem dX10_init_68 : decode cX10_init 68 = .ok (.new 48, 3) := by decide +kernel
theorem dX10_init_71 : decode cX10_init 71 = .ok (.dup, 1) := by decide +kernel
theorem dX10_init_72 : decode cX10_init 72 = .ok (.aload_n 0, 1) := by decide +kernel
theorem dX10_init_73 : decode cX10_init 73 = .ok (.getfield 10, 3) := by decide +kernel
theorem dX10_init_76 : decode cX10_init 76 = .ok (.invokespecial 50, 3) := by decide +kernel
theorem dX10_init_79 : decode cX10_init 79 = .ok (.putfield 51, 3) := by decide +kernel
theorem dX10_init_82 : decode cX10_init 82 = .ok (.return_, 1) := by decide +kernel
set_option maxRecDepth 20000 in
theorem ggX10_over_X4_beginAnew : GoodIn wsX10_over wsX4_beginAnew := goodIn_r _ [7, 8, 9, 10, 11, 12, 13, 14, 15, 16, 17, 18, 19, 20, 21, 22, 23, 24, 25, 26, 27, 28, 29, 30, 40, 41, 42, 43, 44, 45, 46, 47, 48, 49, 50, 51, 52, 53, 54, 55, 56, 57, 58, 59] (by decide +kernel) (by decide +kernel)
set_option maxRecDepth 20000 in
theorem gX10_over_X4_beginAnew : GoodIn wsX10_over (wsV RX10 59 RX4 yX4_beginAnew wsX4_beginAnew) := goodIn_app (goodIn_of _ (by decide +kernel)) ggX10_over_X4_beginAnew
theorem dX10_over_0 : decode cX10_over 0 = .ok (.iload_n 1, 1) := by decide +kernel
theorem dX10_over_1 : decode cX10_over 1 = .ok (.iconst 1, 1) := by decide +kernel
theorem dX10_over_2 : decode cX10_over 2 = .ok (.if_icmp .lt 10, 3) := by decide +kernel
theorem dX10_over_5 : decode cX10_over 5 = .ok (.iload_n 1, 1) := by decide +kernel
theorem dX10_over_6 : decode cX10_over 6 = .ok (.sipush 10000, 3) := by decide +kernel
theorem dX10_over_9 : decode cX10_over 9 = .ok (.if_icmp .le 5, 3) := by decide +kernel
theorem dX10_over_12 : decode cX10_over 12 = .ok (.iconst 0, 1) := by decide +kernel
theorem dX10_over_13 : decode cX10_over 13 = .ok (.ireturn, 1) := by decide +kernel
theorem dX10_over_14 : decode cX10_over 14 = .ok (.aload_n 0, 1) := by decide +kernel
theorem dX10_over_15 : decode cX10_over 15 = .ok (.getfield 10, 3) := by decide +kernel
theorem dX10_over_18 : decode cX10_over 18 = .ok (.iload_n 1, 1) := by decide +kernel
theorem dX10_over_19 : decode cX10_over 19 = .ok (.putfield 55, 3) := by decide +kernel
theorem dX10_over_22 : decode cX10_over 22 = .ok (.aload_n 0, 1) := by decide +kernel
theorem dX10_over_23 : decode cX10_over 23 = .ok (.getfield 21, 3) := by decide +kernel
theorem dX10_over_26 : decode cX10_over 26 = .ok (.invokevirtual 59, 3) := by decide +kernel
theorem dX10_over_29 : decode cX10_over 29 = .ok (.iconst 1, 1) := by decide +kernel
theorem dX10_over_30 : decode cX10_over 30 = .ok (.ireturn, 1) := by decide +kernel
set_option maxRecDepth 20000 in
theorem ggX10_steps_X7_canTake : GoodIn wsX10_steps wsX7_canTake := goodIn_r _ [8, 9, 10, 11] (by decide +kernel) (by decide +kernel)
set_option maxRecDepth 20000 in
theorem gX10_steps_X7_canTake : GoodIn wsX10_steps (wsV RX10 62 RX7 yX7_canTake wsX7_canTake) := goodIn_app (goodIn_of _ (by decide +kernel)) ggX10_steps_X7_canTake
set_option maxRecDepth 20000 in
theorem ggX10_steps_X7_take : GoodIn wsX10_steps wsX7_take := goodIn_r _ [15, 16, 17, 52, 53, 54] (by decide +kernel) (by decide +kernel)
set_option maxRecDepth 20000 in
theorem gX10_steps_X7_take : GoodIn wsX10_steps (wsV RX10 66 RX7 yX7_take wsX7_take) := goodIn_app (goodIn_of _ (by decide +kernel)) ggX10_steps_X7_take
set_option maxRecDepth 20000 in
theorem ggX10_steps_X4_beginAnew : GoodIn wsX10_steps wsX4_beginAnew := goodIn_r _ [22, 23, 24, 25, 26, 27, 28, 29, 30, 31, 32, 33, 34, 35, 36, 37, 38, 39, 40, 41, 42, 43, 44, 45, 55, 56, 57, 58, 59, 60, 61, 62, 63, 64, 65, 66, 67, 68, 69, 70, 71, 72, 73, 74] (by decide +kernel) (by decide +kernel)
set_option maxRecDepth 20000 in
theorem gX10_steps_X4_beginAnew : GoodIn wsX10_steps (wsV RX10 59 RX4 yX4_beginAnew wsX4_beginAnew) := goodIn_app (goodIn_of _ (by decide +kernel)) ggX10_steps_X4_beginAnew
theorem dX10_steps_0 : decode cX10_steps 0 = .ok (.bipush 8, 2) := by decide +kernel
theorem dX10_steps_2 : decode cX10_steps 2 = .ok (.newarray .int, 2) := by decide +kernel
theorem dX10_steps_4 : decode cX10_steps 4 = .ok (.dup, 1) := by decide +kernel
theorem dX10_steps_5 : decode cX10_steps 5 = .ok (.iconst 0, 1) := by decide +kernel
theorem dX10_steps_6 : decode cX10_steps 6 = .ok (.iload_n 2, 1) := by decide +kernel
theorem dX10_steps_7 : decode cX10_steps 7 = .ok (.iastore, 1) := by decide +kernel
theorem dX10_steps_8 : decode cX10_steps 8 = .ok (.dup, 1) := by decide +kernel
theorem dX10_steps_9 : decode cX10_steps 9 = .ok (.iconst 1, 1) := by decide +kernel
theorem dX10_steps_10 : decode cX10_steps 10 = .ok (.iload_n 3, 1) := by decide +kernel
theorem dX10_steps_11 : decode cX10_steps 11 = .ok (.iastore, 1) := by decide +kernel
theorem dX10_steps_12 : decode cX10_steps 12 = .ok (.dup, 1) := by decide +kernel
theorem dX10_steps_13 : decode cX10_steps 13 = .ok (.iconst 2, 1) := by decide +kernel
theorem dX10_steps_14 : decode cX10_steps 14 = .ok (.iload 4, 2) := by decide +kernel
theorem dX10_steps_16 : decode cX10_steps 16 = .ok (.iastore, 1) := by decide +kernel
theorem dX10_steps_17 : decode cX10_steps 17 = .ok (.dup, 1) := by decide +kernel
theorem dX10_steps_18 : decode cX10_steps 18 = .ok (.iconst 3, 1) := by decide +kernel
theorem dX10_steps_19 : decode cX10_steps 19 = .ok (.iload 5, 2) := by decide +kernel
theorem dX10_steps_21 : decode cX10_steps 21 = .ok (.iastore, 1) := by decide +kernel
theorem dX10_steps_22 : decode cX10_steps 22 = .ok (.dup, 1) := by decide +kernel
theorem dX10_steps_23 : decode cX10_steps 23 = .ok (.iconst 4, 1) := by decide +kernel
theorem dX10_steps_24 : decode cX10_steps 24 = .ok (.iload 6, 2) := by decide +kernel
theorem dX10_steps_26 : decode cX10_steps 26 = .ok (.iastore, 1) := by decide +kernel
theorem dX10_steps_27 : decode cX10_steps 27 = .ok (.dup, 1) := by decide +kernel
theorem dX10_steps_28 : decode cX10_steps 28 = .ok (.iconst 5, 1) := by decide +kernel
theorem dX10_steps_29 : decode cX10_steps 29 = .ok (.iload 7, 2) := by decide +kernel
theorem dX10_steps_31 : decode cX10_steps 31 = .ok (.iastore, 1) := by decide +kernel
theorem dX10_steps_32 : decode cX10_steps 32 = .ok (.dup, 1) := by decide +kernel
theorem dX10_steps_33 : decode cX10_steps 33 = .ok (.bipush 6, 2) := by decide +kernel
theorem dX10_steps_35 : decode cX10_steps 35 = .ok (.iload 8, 2) := by decide +kernel
theorem dX10_steps_37 : decode cX10_steps 37 = .ok (.iastore, 1) := by decide +kernel
theorem dX10_steps_38 : decode cX10_steps 38 = .ok (.dup, 1) := by decide +kernel
theorem dX10_steps_39 : decode cX10_steps 39 = .ok (.bipush 7, 2) := by decide +kernel
theorem dX10_steps_41 : decode cX10_steps 41 = .ok (.iload 9, 2) := by decide +kernel
theorem dX10_steps_43 : decode cX10_steps 43 = .ok (.iastore, 1) := by decide +kernel
theorem dX10_steps_44 : decode cX10_steps 44 = .ok (.astore 10, 2) := by decide +kernel
theorem dX10_steps_46 : decode cX10_steps 46 = .ok (.aload_n 0, 1) := by decide +kernel
theorem dX10_steps_47 : decode cX10_steps 47 = .ok (.getfield 10, 3) := by decide +kernel
theorem dX10_steps_50 : decode cX10_steps 50 = .ok (.iload_n 1, 1) := by decide +kernel
theorem dX10_steps_51 : decode cX10_steps 51 = .ok (.aload 10, 2) := by decide +kernel
theorem dX10_steps_53 : decode cX10_steps 53 = .ok (.invokevirtual 62, 3) := by decide +kernel
theorem dX10_steps_56 : decode cX10_steps 56 = .ok (.ifCond .ne 5, 3) := by decide +kernel
theorem dX10_steps_59 : decode cX10_steps 59 = .ok (.iconst 0, 1) := by decide +kernel
theorem dX10_steps_60 : decode cX10_steps 60 = .ok (.ireturn, 1) := by decide +kernel
theorem dX10_steps_61 : decode cX10_steps 61 = .ok (.aload_n 0, 1) := by decide +kernel
theorem dX10_steps_62 : decode cX10_steps 62 = .ok (.getfield 10, 3) := by decide +kernel
theorem dX10_steps_65 : decode cX10_steps 65 = .ok (.iload_n 1, 1) := by decide +kernel
theorem dX10_steps_66 : decode cX10_steps 66 = .ok (.aload 10, 2) := by decide +kernel
theorem dX10_steps_68 : decode cX10_steps 68 = .ok (.invokevirtual 66, 3) := by decide +kernel
theorem dX10_steps_71 : decode cX10_steps 71 = .ok (.aload_n 0, 1) := by decide +kernel
theorem dX10_steps_72 : decode cX10_steps 72 = .ok (.getfield 21, 3) := by decide +kernel
theorem dX10_steps_75 : decode cX10_steps 75 = .ok (.invokevirtual 59, 3) := by decide +kernel
theorem dX10_steps_78 : decode cX10_steps 78 = .ok (.iconst 1, 1) := by decide +kernel
theorem dX10_steps_79 : decode cX10_steps 79 = .ok (.ireturn, 1) := by decide +kernel
set_option maxRecDepth 20000 in
theorem ggX10_loop_X10_canLoop : GoodIn wsX10_loop wsX10_canLoop := goodIn_r _ [6] (by decide +kernel) (by decide +kernel)
set_option maxRecDepth 20000 in
theorem gX10_loop_X10_canLoop : GoodIn wsX10_loop (va_wsS RX10 70 yX10_canLoop wsX10_canLoop) := goodIn_app (goodIn_of _ (by decide +kernel)) ggX10_loop_X10_canLoop
set_option maxRecDepth 20000 in
theorem ggX10_loop_X4_begin : GoodIn wsX10_loop wsX4_begin := goodIn_r _ [11, 12, 13, 14, 15, 16, 17, 18, 19, 20, 21, 22, 23, 24, 25, 26, 27, 28, 29, 30, 31, 32, 33, 34, 35, 36, 37, 38, 39, 40, 41, 42, 43, 44, 45, 46, 47, 48, 49, 10, 50, 51, 52, 53, 54, 55, 56, 57, 58, 59, 60, 61, 62, 63, 64, 65, 79, 80, 81, 82, 83, 84, 85, 86, 87, 88, 89, 90, 91, 92, 93, 94, 95, 96, 97, 98, 99, 100, 101, 102, 103, 104, 105, 106, 107, 108, 109, 110] (by decide +kernel) (by decide +kernel)
set_option maxRecDepth 20000 in
theorem gX10_loop_X4_begin : GoodIn wsX10_loop (wsV RX10 83 RX4 yX4_begin wsX4_begin) := goodIn_app (goodIn_of _ (by decide +kernel)) ggX10_loop_X4_begin
set_option maxRecDepth 20000 in
theorem ggX10_loop_X0_empty : GoodIn wsX10_loop wsX0_empty := goodIn_r _ [70, 71, 72, 111, 112, 113, 114] (by decide +kernel) (by decide +kernel)
set_option maxRecDepth 20000 in
theorem gX10_loop_X0_empty : GoodIn wsX10_loop (wsV RX10 87 RX0 yX0_empty wsX0_empty) := goodIn_app (goodIn_of _ (by decide +kernel)) ggX10_loop_X0_empty
theorem dX10_loop_0 : decode cX10_loop 0 = .ok (.iload_n 1, 1) := by decide +kernel
theorem dX10_loop_1 : decode cX10_loop 1 = .ok (.iload_n 2, 1) := by decide +kernel
theorem dX10_loop_2 : decode cX10_loop 2 = .ok (.iload_n 3, 1) := by decide +kernel
theorem dX10_loop_3 : decode cX10_loop 3 = .ok (.invokestatic 70, 3) := by decide +kernel
theorem dX10_loop_6 : decode cX10_loop 6 = .ok (.ifCond .ne 5, 3) := by decide +kernel
theorem dX10_loop_9 : decode cX10_loop 9 = .ok (.iconst 0, 1) := by decide +kernel
theorem dX10_loop_10 : decode cX10_loop 10 = .ok (.ireturn, 1) := by decide +kernel
theorem dX10_loop_11 : decode cX10_loop 11 = .ok (.aload_n 0, 1) := by decide +kernel
theorem dX10_loop_12 : decode cX10_loop 12 = .ok (.getfield 21, 3) := by decide +kernel
theorem dX10_loop_15 : decode cX10_loop 15 = .ok (.getfield 74, 3) := by decide +kernel
theorem dX10_loop_18 : decode cX10_loop 18 = .ok (.getfield 78, 3) := by decide +kernel
theorem dX10_loop_21 : decode cX10_loop 21 = .ok (.istore 4, 2) := by decide +kernel
theorem dX10_loop_23 : decode cX10_loop 23 = .ok (.aload_n 0, 1) := by decide +kernel
theorem dX10_loop_24 : decode cX10_loop 24 = .ok (.getfield 21, 3) := by decide +kernel
theorem dX10_loop_27 : decode cX10_loop 27 = .ok (.iload_n 1, 1) := by decide +kernel
theorem dX10_loop_28 : decode cX10_loop 28 = .ok (.iload_n 2, 1) := by decide +kernel
theorem dX10_loop_29 : decode cX10_loop 29 = .ok (.iload_n 3, 1) := by decide +kernel
theorem dX10_loop_30 : decode cX10_loop 30 = .ok (.invokevirtual 83, 3) := by decide +kernel
theorem dX10_loop_33 : decode cX10_loop 33 = .ok (.aload_n 0, 1) := by decide +kernel
theorem dX10_loop_34 : decode cX10_loop 34 = .ok (.getfield 21, 3) := by decide +kernel
theorem dX10_loop_37 : decode cX10_loop 37 = .ok (.getfield 74, 3) := by decide +kernel
theorem dX10_loop_40 : decode cX10_loop 40 = .ok (.getfield 78, 3) := by decide +kernel
theorem dX10_loop_43 : decode cX10_loop 43 = .ok (.iload 4, 2) := by decide +kernel
theorem dX10_loop_45 : decode cX10_loop 45 = .ok (.if_icmp .eq 10, 3) := by decide +kernel
theorem dX10_loop_48 : decode cX10_loop 48 = .ok (.aload_n 0, 1) := by decide +kernel
theorem dX10_loop_49 : decode cX10_loop 49 = .ok (.getfield 37, 3) := by decide +kernel
theorem dX10_loop_52 : decode cX10_loop 52 = .ok (.invokevirtual 87, 3) := by decide +kernel
theorem dX10_loop_55 : decode cX10_loop 55 = .ok (.iconst 1, 1) := by decide +kernel
theorem dX10_loop_56 : decode cX10_loop 56 = .ok (.ireturn, 1) := by decide +kernel
set_option maxRecDepth 20000 in
theorem ggX10_table_X10_isWithin : GoodIn wsX10_table wsX10_isWithin := goodIn_r _ [5] (by decide +kernel) (by decide +kernel)
set_option maxRecDepth 20000 in
theorem gX10_table_X10_isWithin : GoodIn wsX10_table (va_wsS RX10 93 yX10_isWithin wsX10_isWithin) := goodIn_app (goodIn_of _ (by decide +kernel)) ggX10_table_X10_isWithin
set_option maxRecDepth 20000 in
theorem ggX10_table_X8_put : GoodIn wsX10_table wsX8_put := goodIn_r _ [10, 11, 12, 13, 14, 15, 16, 66, 67, 68, 69, 70, 71] (by decide +kernel) (by decide +kernel)
set_option maxRecDepth 20000 in
theorem gX10_table_X8_put : GoodIn wsX10_table (wsV RX10 101 RX8 yX8_put wsX8_put) := goodIn_app (goodIn_of _ (by decide +kernel)) ggX10_table_X8_put
set_option maxRecDepth 20000 in
theorem ggX10_table_X4_beginAnew : GoodIn wsX10_table wsX4_beginAnew := goodIn_r _ [21, 22, 23, 24, 25, 26, 27, 28, 29, 30, 31, 32, 33, 34, 35, 36, 37, 38, 39, 40, 41, 42, 43, 44, 51, 52, 53, 54, 55, 56, 57, 58, 59, 72, 73, 74, 75, 76, 77, 78, 79, 80, 81, 82] (by decide +kernel) (by decide +kernel)
set_option maxRecDepth 20000 in
theorem gX10_table_X4_beginAnew : GoodIn wsX10_table (wsV RX10 59 RX4 yX4_beginAnew wsX4_beginAnew) := goodIn_app (goodIn_of _ (by decide +kernel)) ggX10_table_X4_beginAnew
theorem dX10_table_0 : decode cX10_table 0 = .ok (.aload_n 0, 1) := by decide +kernel
theorem dX10_table_1 : decode cX10_table 1 = .ok (.getfield 21, 3) := by decide +kernel
theorem dX10_table_4 : decode cX10_table 4 = .ok (.getfield 74, 3) := by decide +kernel
theorem dX10_table_7 : decode cX10_table 7 = .ok (.getfield 90, 3) := by decide +kernel
theorem dX10_table_10 : decode cX10_table 10 = .ok (.iconst 2, 1) := by decide +kernel
theorem dX10_table_11 : decode cX10_table 11 = .ok (.if_icmp .ne 12, 3) := by decide +kernel
theorem dX10_table_14 : decode cX10_table 14 = .ok (.iload_n 3, 1) := by decide +kernel
theorem dX10_table_15 : decode cX10_table 15 = .ok (.bipush 10, 2) := by decide +kernel
theorem dX10_table_17 : decode cX10_table 17 = .ok (.invokestatic 93, 3) := by decide +kernel
theorem dX10_table_20 : decode cX10_table 20 = .ok (.ifCond .ne 5, 3) := by decide +kernel
theorem dX10_table_23 : decode cX10_table 23 = .ok (.iconst 0, 1) := by decide +kernel
theorem dX10_table_24 : decode cX10_table 24 = .ok (.ireturn, 1) := by decide +kernel
theorem dX10_table_25 : decode cX10_table 25 = .ok (.aload_n 0, 1) := by decide +kernel
theorem dX10_table_26 : decode cX10_table 26 = .ok (.getfield 21, 3) := by decide +kernel
theorem dX10_table_29 : decode cX10_table 29 = .ok (.getfield 74, 3) := by decide +kernel
theorem dX10_table_32 : decode cX10_table 32 = .ok (.getfield 97, 3) := by decide +kernel
theorem dX10_table_35 : decode cX10_table 35 = .ok (.iload_n 1, 1) := by decide +kernel
theorem dX10_table_36 : decode cX10_table 36 = .ok (.iload_n 2, 1) := by decide +kernel
theorem dX10_table_37 : decode cX10_table 37 = .ok (.iload_n 3, 1) := by decide +kernel
theorem dX10_table_38 : decode cX10_table 38 = .ok (.invokevirtual 101, 3) := by decide +kernel
theorem dX10_table_41 : decode cX10_table 41 = .ok (.ifCond .ne 5, 3) := by decide +kernel
theorem dX10_table_44 : decode cX10_table 44 = .ok (.iconst 0, 1) := by decide +kernel
theorem dX10_table_45 : decode cX10_table 45 = .ok (.ireturn, 1) := by decide +kernel
theorem dX10_table_46 : decode cX10_table 46 = .ok (.aload_n 0, 1) := by decide +kernel
theorem dX10_table_47 : decode cX10_table 47 = .ok (.getfield 21, 3) := by decide +kernel
theorem dX10_table_50 : decode cX10_table 50 = .ok (.invokevirtual 59, 3) := by decide +kernel
theorem dX10_table_53 : decode cX10_table 53 = .ok (.iconst 1, 1) := by decide +kernel
theorem dX10_table_54 : decode cX10_table 54 = .ok (.ireturn, 1) := by decide +kernel
set_option maxRecDepth 20000 in
theorem ggX10_start_X5_hasSum : GoodIn wsX10_start wsX5_hasSum := goodIn_r _ [6, 7, 36, 37, 38, 39, 40, 41] (by decide +kernel) (by decide +kernel)
set_option maxRecDepth 20000 in
theorem gX10_start_X5_hasSum : GoodIn wsX10_start (wsV RX10 106 RX5 yX5_hasSum wsX5_hasSum) := goodIn_app (goodIn_of _ (by decide +kernel)) ggX10_start_X5_hasSum
set_option maxRecDepth 20000 in
theorem ggX10_start_X10_isSum : GoodIn wsX10_start wsX10_isSum := goodIn_r _ [11, 12, 13] (by decide +kernel) (by decide +kernel)
set_option maxRecDepth 20000 in
theorem gX10_start_X10_isSum : GoodIn wsX10_start (va_wsS RX10 110 yX10_isSum wsX10_isSum) := goodIn_app (goodIn_of _ (by decide +kernel)) ggX10_start_X10_isSum
set_option maxRecDepth 20000 in
theorem ggX10_start_X4_startAt : GoodIn wsX10_start wsX4_startAt := goodIn_r _ [18, 19, 20, 27, 28, 29, 30, 31, 32, 33, 34, 35] (by decide +kernel) (by decide +kernel)
set_option maxRecDepth 20000 in
theorem gX10_start_X4_startAt : GoodIn wsX10_start (wsV RX10 117 RX4 yX4_startAt wsX4_startAt) := goodIn_app (goodIn_of _ (by decide +kernel)) ggX10_start_X4_startAt
theorem dX10_start_0 : decode cX10_start 0 = .ok (.aload_n 0, 1) := by decide +kernel
theorem dX10_start_1 : decode cX10_start 1 = .ok (.getfield 21, 3) := by decide +kernel
theorem dX10_start_4 : decode cX10_start 4 = .ok (.getfield 74, 3) := by decide +kernel
theorem dX10_start_7 : decode cX10_start 7 = .ok (.iload_n 1, 1) := by decide +kernel
theorem dX10_start_8 : decode cX10_start 8 = .ok (.invokevirtual 106, 3) := by decide +kernel
theorem dX10_start_11 : decode cX10_start 11 = .ok (.ifCond .eq 20, 3) := by decide +kernel
theorem dX10_start_14 : decode cX10_start 14 = .ok (.lload_n 2, 1) := by decide +kernel
theorem dX10_start_15 : decode cX10_start 15 = .ok (.invokestatic 110, 3) := by decide +kernel
theorem dX10_start_18 : decode cX10_start 18 = .ok (.ifCond .eq 13, 3) := by decide +kernel
theorem dX10_start_21 : decode cX10_start 21 = .ok (.aload_n 0, 1) := by decide +kernel
theorem dX10_start_22 : decode cX10_start 22 = .ok (.getfield 21, 3) := by decide +kernel
theorem dX10_start_25 : decode cX10_start 25 = .ok (.getfield 114, 3) := by decide +kernel
theorem dX10_start_28 : decode cX10_start 28 = .ok (.ifCond .eq 5, 3) := by decide +kernel
theorem dX10_start_31 : decode cX10_start 31 = .ok (.iconst 0, 1) := by decide +kernel
theorem dX10_start_32 : decode cX10_start 32 = .ok (.ireturn, 1) := by decide +kernel
theorem dX10_start_33 : decode cX10_start 33 = .ok (.aload_n 0, 1) := by decide +kernel
theorem dX10_start_34 : decode cX10_start 34 = .ok (.getfield 21, 3) := by decide +kernel
theorem dX10_start_37 : decode cX10_start 37 = .ok (.iload_n 1, 1) := by decide +kernel
theorem dX10_start_38 : decode cX10_start 38 = .ok (.lload_n 2, 1) := by decide +kernel
theorem dX10_start_39 : decode cX10_start 39 = .ok (.invokevirtual 117, 3) := by decide +kernel
theorem dX10_start_42 : decode cX10_start 42 = .ok (.iconst 1, 1) := by decide +kernel
theorem dX10_start_43 : decode cX10_start 43 = .ok (.ireturn, 1) := by decide +kernel
set_option maxRecDepth 20000 in
theorem ggX10_tick_X10_isWish : GoodIn wsX10_tick wsX10_isWish := goodIn_r _ [6, 7, 8, 9, 5, 10] (by decide +kernel) (by decide +kernel)
set_option maxRecDepth 20000 in
theorem gX10_tick_X10_isWish : GoodIn wsX10_tick (va_wsS RX10 121 yX10_isWish wsX10_isWish) := goodIn_app (goodIn_of _ (by decide +kernel)) ggX10_tick_X10_isWish
set_option maxRecDepth 20000 in
theorem ggX10_tick_X4_turn : GoodIn wsX10_tick wsX4_turn := goodIn_r _ [15, 16, 17, 18, 19, 20, 21, 22, 23, 24, 25, 26, 27, 28, 29, 30, 31, 32, 33, 34, 35, 36, 37, 38, 39, 40, 41, 42, 43, 44, 45, 46, 47, 48, 49, 50, 51, 52, 53, 54, 55, 56, 57, 58, 59, 60, 61, 62, 63, 64, 65, 66, 67, 68, 69, 70, 71, 72, 73, 74, 75, 76, 77, 78, 79, 80, 81, 5, 82, 83, 84, 85, 86, 87, 14, 88, 89, 90, 91, 92, 93, 94, 95, 96, 97, 98, 99, 100, 101, 102, 103, 104, 105, 106, 107, 108, 109, 110, 111, 112, 113, 114, 115, 116, 117, 118, 119, 120, 121, 122, 123, 124, 125, 126, 127, 128, 129, 130, 131, 138, 139, 140, 141, 142, 143, 144, 145, 146, 147, 148, 149, 150, 151, 152, 153, 154, 155, 156, 157, 158, 159, 160, 161, 162, 163, 164, 165, 166, 167, 168, 169, 170, 171, 172] (by decide +kernel) (by decide +kernel)
set_option maxRecDepth 20000 in
theorem gX10_tick_X4_turn : GoodIn wsX10_tick (wsV RX10 124 RX4 yX4_turn wsX4_turn) := goodIn_app (goodIn_of _ (by decide +kernel)) ggX10_tick_X4_turn
theorem dX10_tick_0 : decode cX10_tick 0 = .ok (.iload_n 1, 1) := by decide +kernel
theorem dX10_tick_1 : decode cX10_tick 1 = .ok (.invokestatic 121, 3) := by decide +kernel
theorem dX10_tick_4 : decode cX10_tick 4 = .ok (.ifCond .eq 14, 3) := by decide +kernel
theorem dX10_tick_7 : decode cX10_tick 7 = .ok (.aload_n 0, 1) := by decide +kernel
theorem dX10_tick_8 : decode cX10_tick 8 = .ok (.getfield 21, 3) := by decide +kernel
theorem dX10_tick_11 : decode cX10_tick 11 = .ok (.iload_n 1, 1) := by decide +kernel
theorem dX10_tick_12 : decode cX10_tick 12 = .ok (.invokevirtual 124, 3) := by decide +kernel
theorem dX10_tick_15 : decode cX10_tick 15 = .ok (.goto 5, 3) := by decide +kernel
theorem dX10_tick_18 : decode cX10_tick 18 = .ok (.ldc 128, 2) := by decide +kernel
theorem dX10_tick_20 : decode cX10_tick 20 = .ok (.ireturn, 1) := by decide +kernel
set_option maxRecDepth 20000 in
theorem ggX10_run_X10_isWish : GoodIn wsX10_run wsX10_isWish := goodIn_r _ [6, 7, 8, 9, 5, 10] (by decide +kernel) (by decide +kernel)
set_option maxRecDepth 20000 in
theorem gX10_run_X10_isWish : GoodIn wsX10_run (va_wsS RX10 121 yX10_isWish wsX10_isWish) := goodIn_app (goodIn_of _ (by decide +kernel)) ggX10_run_X10_isWish
set_option maxRecDepth 20000 in
theorem ggX10_run_X4_turn : GoodIn wsX10_run wsX4_turn := goodIn_r _ [15, 16, 17, 18, 19, 20, 21, 22, 23, 24, 25, 26, 27, 28, 29, 30, 31, 32, 33, 34, 35, 36, 37, 38, 39, 40, 41, 42, 43, 44, 45, 46, 47, 48, 49, 50, 51, 52, 53, 54, 55, 56, 57, 58, 59, 60, 61, 62, 63, 64, 65, 66, 67, 68, 69, 70, 71, 72, 73, 74, 75, 76, 77, 78, 79, 80, 81, 5, 82, 83, 84, 85, 86, 87, 14, 88, 89, 90, 91, 92, 93, 94, 95, 96, 97, 98, 99, 100, 101, 102, 103, 104, 105, 106, 107, 108, 109, 110, 111, 112, 113, 114, 115, 116, 117, 118, 119, 120, 121, 122, 123, 124, 125, 126, 127, 128, 129, 130, 131, 138, 139, 140, 141, 142, 143, 144, 145, 146, 147, 148, 149, 150, 151, 152, 153, 154, 155, 156, 157, 158, 159, 160, 161, 162, 163, 164, 165, 166, 167, 168, 169, 170, 171, 172] (by decide +kernel) (by decide +kernel)
set_option maxRecDepth 20000 in
theorem gX10_run_X4_turn : GoodIn wsX10_run (wsV RX10 124 RX4 yX4_turn wsX4_turn) := goodIn_app (goodIn_of _ (by decide +kernel)) ggX10_run_X4_turn
theorem dX10_run_0 : decode cX10_run 0 = .ok (.iload_n 1, 1) := by decide +kernel
theorem dX10_run_1 : decode cX10_run 1 = .ok (.ifCond .lt 17, 3) := by decide +kernel
theorem dX10_run_4 : decode cX10_run 4 = .ok (.iload_n 1, 1) := by decide +kernel
theorem dX10_run_5 : decode cX10_run 5 = .ok (.sipush 10000, 3) := by decide +kernel
theorem dX10_run_8 : decode cX10_run 8 = .ok (.if_icmp .gt 10, 3) := by decide +kernel
theorem dX10_run_11 : decode cX10_run 11 = .ok (.iload_n 2, 1) := by decide +kernel
theorem dX10_run_12 : decode cX10_run 12 = .ok (.invokestatic 121, 3) := by decide +kernel
theorem dX10_run_15 : decode cX10_run 15 = .ok (.ifCond .ne 5, 3) := by decide +kernel
theorem dX10_run_18 : decode cX10_run 18 = .ok (.iconst (-1), 1) := by decide +kernel
theorem dX10_run_19 : decode cX10_run 19 = .ok (.ireturn, 1) := by decide +kernel
theorem dX10_run_20 : decode cX10_run 20 = .ok (.iconst 0, 1) := by decide +kernel
theorem dX10_run_21 : decode cX10_run 21 = .ok (.istore_n 3, 1) := by decide +kernel
theorem dX10_run_22 : decode cX10_run 22 = .ok (.iload_n 3, 1) := by decide +kernel
theorem dX10_run_23 : decode cX10_run 23 = .ok (.iload_n 1, 1) := by decide +kernel
theorem dX10_run_24 : decode cX10_run 24 = .ok (.if_icmp .ge 24, 3) := by decide +kernel
theorem dX10_run_27 : decode cX10_run 27 = .ok (.aload_n 0, 1) := by decide +kernel
theorem dX10_run_28 : decode cX10_run 28 = .ok (.getfield 21, 3) := by decide +kernel
theorem dX10_run_31 : decode cX10_run 31 = .ok (.iload_n 2, 1) := by decide +kernel
theorem dX10_run_32 : decode cX10_run 32 = .ok (.invokevirtual 124, 3) := by decide +kernel
theorem dX10_run_35 : decode cX10_run 35 = .ok (.ldc 128, 2) := by decide +kernel
theorem dX10_run_37 : decode cX10_run 37 = .ok (.if_icmp .ne 5, 3) := by decide +kernel
theorem dX10_run_40 : decode cX10_run 40 = .ok (.iload_n 3, 1) := by decide +kernel
theorem dX10_run_41 : decode cX10_run 41 = .ok (.ireturn, 1) := by decide +kernel
theorem dX10_run_42 : decode cX10_run 42 = .ok (.iinc 3 1, 3) := by decide +kernel
theorem dX10_run_45 : decode cX10_run 45 = .ok (.goto (-23), 3) := by decide +kernel
theorem dX10_run_48 : decode cX10_run 48 = .ok (.iload_n 1, 1) := by decide +kernel
theorem dX10_run_49 : decode cX10_run 49 = .ok (.ireturn, 1) := by decide +kernel
set_option maxRecDepth 20000 in
theorem ggX10_sum_X5_hasSum : GoodIn wsX10_sum wsX5_hasSum := goodIn_r _ [6, 7, 23, 24, 25, 26, 27, 28] (by decide +kernel) (by decide +kernel)
set_option maxRecDepth 20000 in
theorem gX10_sum_X5_hasSum : GoodIn wsX10_sum (wsV RX10 106 RX5 yX5_hasSum wsX5_hasSum) := goodIn_app (goodIn_of _ (by decide +kernel)) ggX10_sum_X5_hasSum
theorem dX10_sum_0 : decode cX10_sum 0 = .ok (.aload_n 0, 1) := by decide +kernel
theorem dX10_sum_1 : decode cX10_sum 1 = .ok (.getfield 21, 3) := by decide +kernel
theorem dX10_sum_4 : decode cX10_sum 4 = .ok (.getfield 74, 3) := by decide +kernel
theorem dX10_sum_7 : decode cX10_sum 7 = .ok (.iload_n 1, 1) := by decide +kernel
theorem dX10_sum_8 : decode cX10_sum 8 = .ok (.invokevirtual 106, 3) := by decide +kernel
theorem dX10_sum_11 : decode cX10_sum 11 = .ok (.ifCond .eq 15, 3) := by decide +kernel
theorem dX10_sum_14 : decode cX10_sum 14 = .ok (.aload_n 0, 1) := by decide +kernel
theorem dX10_sum_15 : decode cX10_sum 15 = .ok (.getfield 21, 3) := by decide +kernel
theorem dX10_sum_18 : decode cX10_sum 18 = .ok (.getfield 129, 3) := by decide +kernel
theorem dX10_sum_21 : decode cX10_sum 21 = .ok (.iload_n 1, 1) := by decide +kernel
theorem dX10_sum_22 : decode cX10_sum 22 = .ok (.laload, 1) := by decide +kernel
theorem dX10_sum_23 : decode cX10_sum 23 = .ok (.goto 4, 3) := by decide +kernel
theorem dX10_sum_26 : decode cX10_sum 26 = .ok (.lconst 0, 1) := by decide +kernel
theorem dX10_sum_27 : decode cX10_sum 27 = .ok (.lreturn, 1) := by decide +kernel
set_option maxRecDepth 20000 in
theorem ggX10_was_X3_holds : GoodIn wsX10_was wsX3_holds := goodIn_r _ [7, 8, 35, 36, 37, 38, 39, 40] (by decide +kernel) (by decide +kernel)
set_option maxRecDepth 20000 in
theorem gX10_was_X3_holds : GoodIn wsX10_was (wsV RX10 136 RX3 yX3_holds wsX3_holds) := goodIn_app (goodIn_of _ (by decide +kernel)) ggX10_was_X3_holds
set_option maxRecDepth 20000 in
theorem ggX10_was_X3_givenAt : GoodIn wsX10_was wsX3_givenAt := goodIn_r _ [12, 13, 14, 35, 36, 37, 38, 39, 40] (by decide +kernel) (by decide +kernel)
set_option maxRecDepth 20000 in
theorem gX10_was_X3_givenAt : GoodIn wsX10_was (wsV RX10 141 RX3 yX3_givenAt wsX3_givenAt) := goodIn_app (goodIn_of _ (by decide +kernel)) ggX10_was_X3_givenAt
set_option maxRecDepth 20000 in
theorem ggX10_was_X3_wishAt : GoodIn wsX10_was wsX3_wishAt := goodIn_r _ [18, 19, 14, 35, 36, 37, 38, 39, 40] (by decide +kernel) (by decide +kernel)
set_option maxRecDepth 20000 in
theorem gX10_was_X3_wishAt : GoodIn wsX10_was (wsV RX10 144 RX3 yX3_wishAt wsX3_wishAt) := goodIn_app (goodIn_of _ (by decide +kernel)) ggX10_was_X3_wishAt
theorem dX10_was_0 : decode cX10_was 0 = .ok (.aload_n 0, 1) := by decide +kernel
theorem dX10_was_1 : decode cX10_was 1 = .ok (.getfield 21, 3) := by decide +kernel
theorem dX10_was_4 : decode cX10_was 4 = .ok (.getfield 132, 3) := by decide +kernel
theorem dX10_was_7 : decode cX10_was 7 = .ok (.iload_n 1, 1) := by decide +kernel
theorem dX10_was_8 : decode cX10_was 8 = .ok (.invokevirtual 136, 3) := by decide +kernel
theorem dX10_was_11 : decode cX10_was 11 = .ok (.ifCond .ne 6, 3) := by decide +kernel
theorem dX10_was_14 : decode cX10_was 14 = .ok (.ldc 128, 2) := by decide +kernel
theorem dX10_was_16 : decode cX10_was 16 = .ok (.ireturn, 1) := by decide +kernel
theorem dX10_was_17 : decode cX10_was 17 = .ok (.iload_n 2, 1) := by decide +kernel
theorem dX10_was_18 : decode cX10_was 18 = .ok (.lookupswitch 50 #[(0, 26), (1, 38)], 26) := by decide +kernel
theorem dX10_was_44 : decode cX10_was 44 = .ok (.aload_n 0, 1) := by decide +kernel
theorem dX10_was_45 : decode cX10_was 45 = .ok (.getfield 21, 3) := by decide +kernel
theorem dX10_was_48 : decode cX10_was 48 = .ok (.getfield 132, 3) := by decide +kernel
theorem dX10_was_51 : decode cX10_was 51 = .ok (.iload_n 1, 1) := by decide +kernel
theorem dX10_was_52 : decode cX10_was 52 = .ok (.invokevirtual 141, 3) := by decide +kernel
theorem dX10_was_55 : decode cX10_was 55 = .ok (.ireturn, 1) := by decide +kernel
theorem dX10_was_56 : decode cX10_was 56 = .ok (.aload_n 0, 1) := by decide +kernel
theorem dX10_was_57 : decode cX10_was 57 = .ok (.getfield 21, 3) := by decide +kernel
theorem dX10_was_60 : decode cX10_was 60 = .ok (.getfield 132, 3) := by decide +kernel
theorem dX10_was_63 : decode cX10_was 63 = .ok (.iload_n 1, 1) := by decide +kernel
theorem dX10_was_64 : decode cX10_was 64 = .ok (.invokevirtual 144, 3) := by decide +kernel
theorem dX10_was_67 : decode cX10_was 67 = .ok (.ireturn, 1) := by decide +kernel
theorem dX10_was_68 : decode cX10_was 68 = .ok (.ldc 128, 2) := by decide +kernel
theorem dX10_was_70 : decode cX10_was 70 = .ok (.ireturn, 1) := by decide +kernel
set_option maxRecDepth 20000 in
theorem ggX10_behind_X3_holds : GoodIn wsX10_behind wsX3_holds := goodIn_r _ [6, 7, 29, 30, 31, 32, 33, 34] (by decide +kernel) (by decide +kernel)
set_option maxRecDepth 20000 in
theorem gX10_behind_X3_holds : GoodIn wsX10_behind (wsV RX10 136 RX3 yX3_holds wsX3_holds) := goodIn_app (goodIn_of _ (by decide +kernel)) ggX10_behind_X3_holds
set_option maxRecDepth 20000 in
theorem ggX10_behind_X3_sumAt : GoodIn wsX10_behind wsX3_sumAt := goodIn_r _ [11, 12, 13, 29, 30, 31, 32, 33, 34] (by decide +kernel) (by decide +kernel)
set_option maxRecDepth 20000 in
theorem gX10_behind_X3_sumAt : GoodIn wsX10_behind (wsV RX10 147 RX3 yX3_sumAt wsX3_sumAt) := goodIn_app (goodIn_of _ (by decide +kernel)) ggX10_behind_X3_sumAt
theorem dX10_behind_0 : decode cX10_behind 0 = .ok (.aload_n 0, 1) := by decide +kernel
theorem dX10_behind_1 : decode cX10_behind 1 = .ok (.getfield 21, 3) := by decide +kernel
theorem dX10_behind_4 : decode cX10_behind 4 = .ok (.getfield 132, 3) := by decide +kernel
theorem dX10_behind_7 : decode cX10_behind 7 = .ok (.iload_n 1, 1) := by decide +kernel
theorem dX10_behind_8 : decode cX10_behind 8 = .ok (.invokevirtual 136, 3) := by decide +kernel
theorem dX10_behind_11 : decode cX10_behind 11 = .ok (.ifCond .eq 17, 3) := by decide +kernel
theorem dX10_behind_14 : decode cX10_behind 14 = .ok (.aload_n 0, 1) := by decide +kernel
theorem dX10_behind_15 : decode cX10_behind 15 = .ok (.getfield 21, 3) := by decide +kernel
theorem dX10_behind_18 : decode cX10_behind 18 = .ok (.getfield 132, 3) := by decide +kernel
theorem dX10_behind_21 : decode cX10_behind 21 = .ok (.iload_n 1, 1) := by decide +kernel
theorem dX10_behind_22 : decode cX10_behind 22 = .ok (.invokevirtual 147, 3) := by decide +kernel
theorem dX10_behind_25 : decode cX10_behind 25 = .ok (.goto 4, 3) := by decide +kernel
theorem dX10_behind_28 : decode cX10_behind 28 = .ok (.lconst 0, 1) := by decide +kernel
theorem dX10_behind_29 : decode cX10_behind 29 = .ok (.lreturn, 1) := by decide +kernel
set_option maxRecDepth 20000 in
theorem ggX10_missed_X3_holdsLast : GoodIn wsX10_missed wsX3_holdsLast := goodIn_r _ [7, 8, 42, 43, 44, 45, 46, 47] (by decide +kernel) (by decide +kernel)
set_option maxRecDepth 20000 in
theorem gX10_missed_X3_holdsLast : GoodIn wsX10_missed (wsV RX10 151 RX3 yX3_holdsLast wsX3_holdsLast) := goodIn_app (goodIn_of _ (by decide +kernel)) ggX10_missed_X3_holdsLast
set_option maxRecDepth 20000 in
theorem ggX10_missed_X3_missedIn : GoodIn wsX10_missed wsX3_missedIn := goodIn_r _ [12, 13, 14, 15, 6, 16, 17, 18, 19, 20, 21, 22, 23, 42, 43, 44, 45, 46, 47] (by decide +kernel) (by decide +kernel)
set_option maxRecDepth 20000 in
theorem gX10_missed_X3_missedIn : GoodIn wsX10_missed (wsV RX10 154 RX3 yX3_missedIn wsX3_missedIn) := goodIn_app (goodIn_of _ (by decide +kernel)) ggX10_missed_X3_missedIn
theorem dX10_missed_0 : decode cX10_missed 0 = .ok (.aload_n 0, 1) := by decide +kernel
theorem dX10_missed_1 : decode cX10_missed 1 = .ok (.getfield 21, 3) := by decide +kernel
theorem dX10_missed_4 : decode cX10_missed 4 = .ok (.getfield 132, 3) := by decide +kernel
theorem dX10_missed_7 : decode cX10_missed 7 = .ok (.iload_n 1, 1) := by decide +kernel
theorem dX10_missed_8 : decode cX10_missed 8 = .ok (.invokevirtual 151, 3) := by decide +kernel
theorem dX10_missed_11 : decode cX10_missed 11 = .ok (.ifCond .eq 24, 3) := by decide +kernel
theorem dX10_missed_14 : decode cX10_missed 14 = .ok (.aload_n 0, 1) := by decide +kernel
theorem dX10_missed_15 : decode cX10_missed 15 = .ok (.getfield 21, 3) := by decide +kernel
theorem dX10_missed_18 : decode cX10_missed 18 = .ok (.getfield 132, 3) := by decide +kernel
theorem dX10_missed_21 : decode cX10_missed 21 = .ok (.iload_n 1, 1) := by decide +kernel
theorem dX10_missed_22 : decode cX10_missed 22 = .ok (.aload_n 0, 1) := by decide +kernel
theorem dX10_missed_23 : decode cX10_missed 23 = .ok (.getfield 10, 3) := by decide +kernel
theorem dX10_missed_26 : decode cX10_missed 26 = .ok (.getfield 55, 3) := by decide +kernel
theorem dX10_missed_29 : decode cX10_missed 29 = .ok (.invokevirtual 154, 3) := by decide +kernel
theorem dX10_missed_32 : decode cX10_missed 32 = .ok (.goto 4, 3) := by decide +kernel
theorem dX10_missed_35 : decode cX10_missed 35 = .ok (.lconst 0, 1) := by decide +kernel
theorem dX10_missed_36 : decode cX10_missed 36 = .ok (.lreturn, 1) := by decide +kernel
set_option maxRecDepth 20000 in
theorem ggX10_ring_X10_isWish : GoodIn wsX10_ring wsX10_isWish := goodIn_r _ [5, 6, 7, 8, 4, 9] (by decide +kernel) (by decide +kernel)
set_option maxRecDepth 20000 in
theorem gX10_ring_X10_isWish : GoodIn wsX10_ring (va_wsS RX10 121 yX10_isWish wsX10_isWish) := goodIn_app (goodIn_of _ (by decide +kernel)) ggX10_ring_X10_isWish
set_option maxRecDepth 20000 in
theorem ggX10_ring_X6_findRing : GoodIn wsX10_ring wsX6_findRing := goodIn_r _ [14, 15, 16, 17, 18, 13, 19, 20, 21, 22, 23, 24, 25, 26, 27, 28, 29, 30, 31, 32, 33, 34, 35, 36, 37, 38, 39, 40, 41, 42, 43, 44, 45, 46, 47, 48, 49, 50, 51, 52, 53, 54, 55, 56, 57, 58, 59, 60, 61, 62, 63, 64, 65, 66, 67, 68, 69, 70, 71, 72, 73, 74, 75, 76, 77, 78, 79, 80, 81, 82, 83, 84, 85, 4, 86, 87, 88, 89, 90, 91, 92, 93, 94, 95, 96, 103, 104, 105, 106, 107, 108, 109, 110, 111, 112, 113, 114, 115, 116, 117, 118, 119, 120, 121, 122, 123, 124, 125, 126, 127, 128, 129, 130] (by decide +kernel) (by decide +kernel)
set_option maxRecDepth 20000 in
theorem gX10_ring_X6_findRing : GoodIn wsX10_ring (wsV RX10 158 RX6 yX6_findRing wsX6_findRing) := goodIn_app (goodIn_of _ (by decide +kernel)) ggX10_ring_X6_findRing
theorem dX10_ring_0 : decode cX10_ring 0 = .ok (.iload_n 1, 1) := by decide +kernel
theorem dX10_ring_1 : decode cX10_ring 1 = .ok (.invokestatic 121, 3) := by decide +kernel
theorem dX10_ring_4 : decode cX10_ring 4 = .ok (.ifCond .eq 14, 3) := by decide +kernel
theorem dX10_ring_7 : decode cX10_ring 7 = .ok (.aload_n 0, 1) := by decide +kernel
theorem dX10_ring_8 : decode cX10_ring 8 = .ok (.getfield 30, 3) := by decide +kernel
theorem dX10_ring_11 : decode cX10_ring 11 = .ok (.iload_n 1, 1) := by decide +kernel
theorem dX10_ring_12 : decode cX10_ring 12 = .ok (.invokevirtual 158, 3) := by decide +kernel
theorem dX10_ring_15 : decode cX10_ring 15 = .ok (.goto 4, 3) := by decide +kernel
theorem dX10_ring_18 : decode cX10_ring 18 = .ok (.iconst (-1), 1) := by decide +kernel
theorem dX10_ring_19 : decode cX10_ring 19 = .ok (.ireturn, 1) := by decide +kernel
theorem dX10_tail_0 : decode cX10_tail 0 = .ok (.aload_n 0, 1) := by decide +kernel
theorem dX10_tail_1 : decode cX10_tail 1 = .ok (.getfield 30, 3) := by decide +kernel
theorem dX10_tail_4 : decode cX10_tail 4 = .ok (.getfield 161, 3) := by decide +kernel
theorem dX10_tail_7 : decode cX10_tail 7 = .ok (.ireturn, 1) := by decide +kernel
set_option maxRecDepth 20000 in
theorem ggX10_leaves_X10_isWish : GoodIn wsX10_leaves wsX10_isWish := goodIn_r _ [5, 6, 7, 8, 4, 9] (by decide +kernel) (by decide +kernel)
set_option maxRecDepth 20000 in
theorem gX10_leaves_X10_isWish : GoodIn wsX10_leaves (va_wsS RX10 121 yX10_isWish wsX10_isWish) := goodIn_app (goodIn_of _ (by decide +kernel)) ggX10_leaves_X10_isWish
set_option maxRecDepth 20000 in
theorem ggX10_leaves_X6_ticksUntilBeyond : GoodIn wsX10_leaves wsX6_ticksUntilBeyond := goodIn_r _ [14, 15, 16, 17, 18, 13, 19, 20, 21, 22, 23, 24, 25, 26, 27, 28, 29, 30, 31, 32, 33, 34, 35, 36, 37, 38, 39, 40, 41, 42, 43, 44, 45, 46, 47, 48, 49, 50, 51, 52, 53, 54, 55, 56, 57, 58, 59, 60, 61, 62, 63, 64, 65, 66, 67, 68, 69, 70, 71, 72, 73, 74, 75, 76, 77, 78, 79, 4, 80, 81, 82, 83, 84, 85, 86, 93, 94, 95, 96, 97, 98, 99, 100, 101, 102, 103, 104, 105, 106, 107, 108, 109, 110, 111, 112, 113, 114, 115, 116, 117, 118, 119, 120] (by decide +kernel) (by decide +kernel)
set_option maxRecDepth 20000 in
theorem gX10_leaves_X6_ticksUntilBeyond : GoodIn wsX10_leaves (wsV RX10 164 RX6 yX6_ticksUntilBeyond wsX6_ticksUntilBeyond) := goodIn_app (goodIn_of _ (by decide +kernel)) ggX10_leaves_X6_ticksUntilBeyond
theorem dX10_leaves_0 : decode cX10_leaves 0 = .ok (.iload_n 1, 1) := by decide +kernel
theorem dX10_leaves_1 : decode cX10_leaves 1 = .ok (.invokestatic 121, 3) := by decide +kernel
theorem dX10_leaves_4 : decode cX10_leaves 4 = .ok (.ifCond .eq 21, 3) := by decide +kernel
theorem dX10_leaves_7 : decode cX10_leaves 7 = .ok (.lload_n 2, 1) := by decide +kernel
theorem dX10_leaves_8 : decode cX10_leaves 8 = .ok (.lconst 0, 1) := by decide +kernel
theorem dX10_leaves_9 : decode cX10_leaves 9 = .ok (.lcmp, 1) := by decide +kernel
theorem dX10_leaves_10 : decode cX10_leaves 10 = .ok (.ifCond .lt 15, 3) := by decide +kernel
theorem dX10_leaves_13 : decode cX10_leaves 13 = .ok (.aload_n 0, 1) := by decide +kernel
theorem dX10_leaves_14 : decode cX10_leaves 14 = .ok (.getfield 30, 3) := by decide +kernel
theorem dX10_leaves_17 : decode cX10_leaves 17 = .ok (.iload_n 1, 1) := by decide +kernel
theorem dX10_leaves_18 : decode cX10_leaves 18 = .ok (.lload_n 2, 1) := by decide +kernel
theorem dX10_leaves_19 : decode cX10_leaves 19 = .ok (.invokevirtual 164, 3) := by decide +kernel
theorem dX10_leaves_22 : decode cX10_leaves 22 = .ok (.goto 4, 3) := by decide +kernel
theorem dX10_leaves_25 : decode cX10_leaves 25 = .ok (.iconst (-1), 1) := by decide +kernel
theorem dX10_leaves_26 : decode cX10_leaves 26 = .ok (.ireturn, 1) := by decide +kernel
set_option maxRecDepth 20000 in
theorem ggX10_box_X5_hasSum : GoodIn wsX10_box wsX5_hasSum := goodIn_r _ [7, 8, 37, 38, 39, 40, 41, 42] (by decide +kernel) (by decide +kernel)
set_option maxRecDepth 20000 in
theorem gX10_box_X5_hasSum : GoodIn wsX10_box (wsV RX10 106 RX5 yX5_hasSum wsX5_hasSum) := goodIn_app (goodIn_of _ (by decide +kernel)) ggX10_box_X5_hasSum
set_option maxRecDepth 20000 in
theorem ggX10_box_X10_isSum : GoodIn wsX10_box wsX10_isSum := goodIn_r _ [12, 13, 14] (by decide +kernel) (by decide +kernel)
set_option maxRecDepth 20000 in
theorem gX10_box_X10_isSum : GoodIn wsX10_box (va_wsS RX10 110 yX10_isSum wsX10_isSum) := goodIn_app (goodIn_of _ (by decide +kernel)) ggX10_box_X10_isSum
set_option maxRecDepth 20000 in
theorem ggX10_box_X0_setEnds : GoodIn wsX10_box wsX0_setEnds := goodIn_r _ [19, 20, 21, 43, 44, 45, 46] (by decide +kernel) (by decide +kernel)
set_option maxRecDepth 20000 in
theorem gX10_box_X0_setEnds : GoodIn wsX10_box (wsV RX10 168 RX0 yX0_setEnds wsX0_setEnds) := goodIn_app (goodIn_of _ (by decide +kernel)) ggX10_box_X0_setEnds
theorem dX10_box_0 : decode cX10_box 0 = .ok (.aload_n 0, 1) := by decide +kernel
theorem dX10_box_1 : decode cX10_box 1 = .ok (.getfield 21, 3) := by decide +kernel
theorem dX10_box_4 : decode cX10_box 4 = .ok (.getfield 74, 3) := by decide +kernel
theorem dX10_box_7 : decode cX10_box 7 = .ok (.iload_n 1, 1) := by decide +kernel
theorem dX10_box_8 : decode cX10_box 8 = .ok (.invokevirtual 106, 3) := by decide +kernel
theorem dX10_box_11 : decode cX10_box 11 = .ok (.ifCond .eq 25, 3) := by decide +kernel
theorem dX10_box_14 : decode cX10_box 14 = .ok (.lload_n 2, 1) := by decide +kernel
theorem dX10_box_15 : decode cX10_box 15 = .ok (.lload 4, 2) := by decide +kernel
theorem dX10_box_17 : decode cX10_box 17 = .ok (.lcmp, 1) := by decide +kernel
theorem dX10_box_18 : decode cX10_box 18 = .ok (.ifCond .gt 18, 3) := by decide +kernel
theorem dX10_box_21 : decode cX10_box 21 = .ok (.lload_n 2, 1) := by decide +kernel
theorem dX10_box_22 : decode cX10_box 22 = .ok (.invokestatic 110, 3) := by decide +kernel
theorem dX10_box_25 : decode cX10_box 25 = .ok (.ifCond .eq 11, 3) := by decide +kernel
theorem dX10_box_28 : decode cX10_box 28 = .ok (.lload 4, 2) := by decide +kernel
theorem dX10_box_30 : decode cX10_box 30 = .ok (.invokestatic 110, 3) := by decide +kernel
theorem dX10_box_33 : decode cX10_box 33 = .ok (.ifCond .ne 5, 3) := by decide +kernel
theorem dX10_box_36 : decode cX10_box 36 = .ok (.iconst 0, 1) := by decide +kernel
theorem dX10_box_37 : decode cX10_box 37 = .ok (.ireturn, 1) := by decide +kernel
theorem dX10_box_38 : decode cX10_box 38 = .ok (.aload_n 0, 1) := by decide +kernel
theorem dX10_box_39 : decode cX10_box 39 = .ok (.getfield 37, 3) := by decide +kernel
theorem dX10_box_42 : decode cX10_box 42 = .ok (.iload_n 1, 1) := by decide +kernel
theorem dX10_box_43 : decode cX10_box 43 = .ok (.lload_n 2, 1) := by decide +kernel
theorem dX10_box_44 : decode cX10_box 44 = .ok (.lload 4, 2) := by decide +kernel
theorem dX10_box_46 : decode cX10_box 46 = .ok (.invokevirtual 168, 3) := by decide +kernel
theorem dX10_box_49 : decode cX10_box 49 = .ok (.iconst 1, 1) := by decide +kernel
theorem dX10_box_50 : decode cX10_box 50 = .ok (.ireturn, 1) := by decide +kernel
set_option maxRecDepth 20000 in
theorem ggX10_kept_X10_isWish : GoodIn wsX10_kept wsX10_isWish := goodIn_r _ [6, 7, 8, 9, 5, 10] (by decide +kernel) (by decide +kernel)
set_option maxRecDepth 20000 in
theorem gX10_kept_X10_isWish : GoodIn wsX10_kept (va_wsS RX10 121 yX10_isWish wsX10_isWish) := goodIn_app (goodIn_of _ (by decide +kernel)) ggX10_kept_X10_isWish
set_option maxRecDepth 20000 in
theorem ggX10_kept_X0_tellKept : GoodIn wsX10_kept wsX0_tellKept := goodIn_r _ [15, 16, 17, 18, 19, 20, 21, 14, 22, 23, 24, 25, 26, 27, 28, 29, 30, 31, 32, 33, 34, 35, 36, 37, 38, 39, 40, 41, 42, 43, 44, 45, 46, 47, 48, 49, 50, 51, 52, 53, 54, 55, 56, 57, 58, 59, 60, 61, 62, 63, 64, 65, 66, 67, 68, 69, 70, 71, 72, 73, 74, 75, 76, 77, 78, 79, 80, 81, 82, 83, 84, 85, 86, 87, 88, 89, 5, 90, 91, 92, 93, 94, 95, 96, 97, 98, 99, 100, 116, 117, 118, 119, 120, 121, 122, 123, 124, 125, 126, 127, 128, 129, 130, 131, 132, 133, 134] (by decide +kernel) (by decide +kernel)
set_option maxRecDepth 20000 in
theorem gX10_kept_X0_tellKept : GoodIn wsX10_kept (wsV RX10 172 RX0 yX0_tellKept wsX0_tellKept) := goodIn_app (goodIn_of _ (by decide +kernel)) ggX10_kept_X0_tellKept
theorem dX10_kept_0 : decode cX10_kept 0 = .ok (.iload_n 1, 1) := by decide +kernel
theorem dX10_kept_1 : decode cX10_kept 1 = .ok (.invokestatic 121, 3) := by decide +kernel
theorem dX10_kept_4 : decode cX10_kept 4 = .ok (.ifCond .eq 15, 3) := by decide +kernel
theorem dX10_kept_7 : decode cX10_kept 7 = .ok (.iload_n 2, 1) := by decide +kernel
theorem dX10_kept_8 : decode cX10_kept 8 = .ok (.invokestatic 121, 3) := by decide +kernel
theorem dX10_kept_11 : decode cX10_kept 11 = .ok (.ifCond .eq 8, 3) := by decide +kernel
theorem dX10_kept_14 : decode cX10_kept 14 = .ok (.iload_n 1, 1) := by decide +kernel
theorem dX10_kept_15 : decode cX10_kept 15 = .ok (.iload_n 2, 1) := by decide +kernel
theorem dX10_kept_16 : decode cX10_kept 16 = .ok (.if_icmp .le 5, 3) := by decide +kernel
theorem dX10_kept_19 : decode cX10_kept 19 = .ok (.iconst (-1), 1) := by decide +kernel
theorem dX10_kept_20 : decode cX10_kept 20 = .ok (.ireturn, 1) := by decide +kernel
theorem dX10_kept_21 : decode cX10_kept 21 = .ok (.aload_n 0, 1) := by decide +kernel
theorem dX10_kept_22 : decode cX10_kept 22 = .ok (.getfield 37, 3) := by decide +kernel
theorem dX10_kept_25 : decode cX10_kept 25 = .ok (.aload_n 0, 1) := by decide +kernel
theorem dX10_kept_26 : decode cX10_kept 26 = .ok (.getfield 21, 3) := by decide +kernel
theorem dX10_kept_29 : decode cX10_kept 29 = .ok (.getfield 74, 3) := by decide +kernel
theorem dX10_kept_32 : decode cX10_kept 32 = .ok (.iload_n 1, 1) := by decide +kernel
theorem dX10_kept_33 : decode cX10_kept 33 = .ok (.iload_n 2, 1) := by decide +kernel
theorem dX10_kept_34 : decode cX10_kept 34 = .ok (.invokevirtual 172, 3) := by decide +kernel
theorem dX10_kept_37 : decode cX10_kept 37 = .ok (.ireturn, 1) := by decide +kernel
set_option maxRecDepth 20000 in
theorem ggX10_word_J9_floorDiv_f86c9 : GoodIn wsX10_word wsJ9_floorDiv_f86c9 := goodIn_r _ [6] (by decide +kernel) (by decide +kernel)
set_option maxRecDepth 20000 in
theorem gX10_word_J9_floorDiv_f86c9 : GoodIn wsX10_word (va_wsS RX10 177 yJ9_floorDiv_f86c9 wsJ9_floorDiv_f86c9) := goodIn_app (goodIn_of _ (by decide +kernel)) ggX10_word_J9_floorDiv_f86c9
theorem dX10_word_0 : decode cX10_word 0 = .ok (.iload_n 1, 1) := by decide +kernel
theorem dX10_word_1 : decode cX10_word 1 = .ok (.ifCond .lt 24, 3) := by decide +kernel
theorem dX10_word_4 : decode cX10_word 4 = .ok (.iload_n 1, 1) := by decide +kernel
theorem dX10_word_5 : decode cX10_word 5 = .ok (.aload_n 0, 1) := by decide +kernel
theorem dX10_word_6 : decode cX10_word 6 = .ok (.getfield 10, 3) := by decide +kernel
theorem dX10_word_9 : decode cX10_word 9 = .ok (.getfield 55, 3) := by decide +kernel
theorem dX10_word_12 : decode cX10_word 12 = .ok (.if_icmp .ge 13, 3) := by decide +kernel
theorem dX10_word_15 : decode cX10_word 15 = .ok (.iload_n 2, 1) := by decide +kernel
theorem dX10_word_16 : decode cX10_word 16 = .ok (.ifCond .lt 9, 3) := by decide +kernel
theorem dX10_word_19 : decode cX10_word 19 = .ok (.iload_n 2, 1) := by decide +kernel
theorem dX10_word_20 : decode cX10_word 20 = .ok (.ldc 176, 2) := by decide +kernel
theorem dX10_word_22 : decode cX10_word 22 = .ok (.if_icmp .le 5, 3) := by decide +kernel
theorem dX10_word_25 : decode cX10_word 25 = .ok (.iconst (-1), 1) := by decide +kernel
theorem dX10_word_26 : decode cX10_word 26 = .ok (.ireturn, 1) := by decide +kernel
theorem dX10_word_27 : decode cX10_word 27 = .ok (.iload_n 2, 1) := by decide +kernel
theorem dX10_word_28 : decode cX10_word 28 = .ok (.i2l, 1) := by decide +kernel
theorem dX10_word_29 : decode cX10_word 29 = .ok (.lconst 1, 1) := by decide +kernel
theorem dX10_word_30 : decode cX10_word 30 = .ok (.ladd, 1) := by decide +kernel
theorem dX10_word_31 : decode cX10_word 31 = .ok (.iload_n 1, 1) := by decide +kernel
theorem dX10_word_32 : decode cX10_word 32 = .ok (.i2l, 1) := by decide +kernel
theorem dX10_word_33 : decode cX10_word 33 = .ok (.lmul, 1) := by decide +kernel
theorem dX10_word_34 : decode cX10_word 34 = .ok (.aload_n 0, 1) := by decide +kernel
theorem dX10_word_35 : decode cX10_word 35 = .ok (.getfield 10, 3) := by decide +kernel
theorem dX10_word_38 : decode cX10_word 38 = .ok (.getfield 55, 3) := by decide +kernel
theorem dX10_word_41 : decode cX10_word 41 = .ok (.i2l, 1) := by decide +kernel
theorem dX10_word_42 : decode cX10_word 42 = .ok (.invokestatic 177, 3) := by decide +kernel
theorem dX10_word_45 : decode cX10_word 45 = .ok (.lstore_n 3, 1) := by decide +kernel
theorem dX10_word_46 : decode cX10_word 46 = .ok (.iload_n 2, 1) := by decide +kernel
theorem dX10_word_47 : decode cX10_word 47 = .ok (.i2l, 1) := by decide +kernel
theorem dX10_word_48 : decode cX10_word 48 = .ok (.iload_n 1, 1) := by decide +kernel
theorem dX10_word_49 : decode cX10_word 49 = .ok (.i2l, 1) := by decide +kernel
theorem dX10_word_50 : decode cX10_word 50 = .ok (.lmul, 1) := by decide +kernel
theorem dX10_word_51 : decode cX10_word 51 = .ok (.aload_n 0, 1) := by decide +kernel
theorem dX10_word_52 : decode cX10_word 52 = .ok (.getfield 10, 3) := by decide +kernel
theorem dX10_word_55 : decode cX10_word 55 = .ok (.getfield 55, 3) := by decide +kernel
theorem dX10_word_58 : decode cX10_word 58 = .ok (.i2l, 1) := by decide +kernel
theorem dX10_word_59 : decode cX10_word 59 = .ok (.invokestatic 177, 3) := by decide +kernel
theorem dX10_word_62 : decode cX10_word 62 = .ok (.lstore 5, 2) := by decide +kernel
theorem dX10_word_64 : decode cX10_word 64 = .ok (.lload_n 3, 1) := by decide +kernel
theorem dX10_word_65 : decode cX10_word 65 = .ok (.lload 5, 2) := by decide +kernel
theorem dX10_word_67 : decode cX10_word 67 = .ok (.lsub, 1) := by decide +kernel
theorem dX10_word_68 : decode cX10_word 68 = .ok (.l2i, 1) := by decide +kernel
theorem dX10_word_69 : decode cX10_word 69 = .ok (.ireturn, 1) := by decide +kernel
set_option maxRecDepth 20000 in
theorem ggX10_even_X3_holdsLast : GoodIn wsX10_even wsX3_holdsLast := goodIn_r _ [6, 7, 45, 46, 47, 48, 49, 50] (by decide +kernel) (by decide +kernel)
set_option maxRecDepth 20000 in
theorem gX10_even_X3_holdsLast : GoodIn wsX10_even (wsV RX10 151 RX3 yX3_holdsLast wsX3_holdsLast) := goodIn_app (goodIn_of _ (by decide +kernel)) ggX10_even_X3_holdsLast
set_option maxRecDepth 20000 in
theorem ggX10_even_X3_isEven : GoodIn wsX10_even wsX3_isEven := goodIn_r _ [11, 12, 13, 14, 15, 5, 16, 17, 18, 19, 20, 21, 22, 23, 24, 25, 26, 27, 28, 29, 45, 46, 47, 48, 49, 50] (by decide +kernel) (by decide +kernel)
set_option maxRecDepth 20000 in
theorem gX10_even_X3_isEven : GoodIn wsX10_even (wsV RX10 183 RX3 yX3_isEven wsX3_isEven) := goodIn_app (goodIn_of _ (by decide +kernel)) ggX10_even_X3_isEven
theorem dX10_even_0 : decode cX10_even 0 = .ok (.aload_n 0, 1) := by decide +kernel
theorem dX10_even_1 : decode cX10_even 1 = .ok (.getfield 21, 3) := by decide +kernel
theorem dX10_even_4 : decode cX10_even 4 = .ok (.getfield 132, 3) := by decide +kernel
theorem dX10_even_7 : decode cX10_even 7 = .ok (.iload_n 1, 1) := by decide +kernel
theorem dX10_even_8 : decode cX10_even 8 = .ok (.invokevirtual 151, 3) := by decide +kernel
theorem dX10_even_11 : decode cX10_even 11 = .ok (.ifCond .ne 5, 3) := by decide +kernel
theorem dX10_even_14 : decode cX10_even 14 = .ok (.iconst (-1), 1) := by decide +kernel
theorem dX10_even_15 : decode cX10_even 15 = .ok (.ireturn, 1) := by decide +kernel
theorem dX10_even_16 : decode cX10_even 16 = .ok (.aload_n 0, 1) := by decide +kernel
theorem dX10_even_17 : decode cX10_even 17 = .ok (.getfield 21, 3) := by decide +kernel
theorem dX10_even_20 : decode cX10_even 20 = .ok (.getfield 132, 3) := by decide +kernel
theorem dX10_even_23 : decode cX10_even 23 = .ok (.iload_n 1, 1) := by decide +kernel
theorem dX10_even_24 : decode cX10_even 24 = .ok (.invokevirtual 183, 3) := by decide +kernel
theorem dX10_even_27 : decode cX10_even 27 = .ok (.ifCond .eq 7, 3) := by decide +kernel
theorem dX10_even_30 : decode cX10_even 30 = .ok (.iconst 1, 1) := by decide +kernel
theorem dX10_even_31 : decode cX10_even 31 = .ok (.goto 4, 3) := by decide +kernel
theorem dX10_even_34 : decode cX10_even 34 = .ok (.iconst 0, 1) := by decide +kernel
theorem dX10_even_35 : decode cX10_even 35 = .ok (.ireturn, 1) := by decide +kernel
set_option maxRecDepth 20000 in
theorem ggX10_weight_X10_isWithin : GoodIn wsX10_weight wsX10_isWithin := goodIn_r _ [5] (by decide +kernel) (by decide +kernel)
set_option maxRecDepth 20000 in
theorem gX10_weight_X10_isWithin : GoodIn wsX10_weight (va_wsS RX10 93 yX10_isWithin wsX10_isWithin) := goodIn_app (goodIn_of _ (by decide +kernel)) ggX10_weight_X10_isWithin
set_option maxRecDepth 20000 in
theorem ggX10_weight_X2_append : GoodIn wsX10_weight wsX2_append := goodIn_r _ [10, 11, 12, 19, 20] (by decide +kernel) (by decide +kernel)
set_option maxRecDepth 20000 in
theorem gX10_weight_X2_append : GoodIn wsX10_weight (wsV RX10 186 RX2 yX2_append wsX2_append) := goodIn_app (goodIn_of _ (by decide +kernel)) ggX10_weight_X2_append
theorem dX10_weight_0 : decode cX10_weight 0 = .ok (.iload_n 1, 1) := by decide +kernel
theorem dX10_weight_1 : decode cX10_weight 1 = .ok (.sipush 1000, 3) := by decide +kernel
theorem dX10_weight_4 : decode cX10_weight 4 = .ok (.invokestatic 93, 3) := by decide +kernel
theorem dX10_weight_7 : decode cX10_weight 7 = .ok (.ifCond .eq 14, 3) := by decide +kernel
theorem dX10_weight_10 : decode cX10_weight 10 = .ok (.aload_n 0, 1) := by decide +kernel
theorem dX10_weight_11 : decode cX10_weight 11 = .ok (.getfield 44, 3) := by decide +kernel
theorem dX10_weight_14 : decode cX10_weight 14 = .ok (.iload_n 1, 1) := by decide +kernel
theorem dX10_weight_15 : decode cX10_weight 15 = .ok (.invokevirtual 186, 3) := by decide +kernel
theorem dX10_weight_18 : decode cX10_weight 18 = .ok (.goto 4, 3) := by decide +kernel
theorem dX10_weight_21 : decode cX10_weight 21 = .ok (.iconst (-1), 1) := by decide +kernel
theorem dX10_weight_22 : decode cX10_weight 22 = .ok (.ireturn, 1) := by decide +kernel
set_option maxRecDepth 20000 in
theorem ggX10_clear_X2_empty : GoodIn wsX10_clear wsX2_empty := goodIn_r _ [6, 7, 14, 15] (by decide +kernel) (by decide +kernel)
set_option maxRecDepth 20000 in
theorem gX10_clear_X2_empty : GoodIn wsX10_clear (wsV RX10 189 RX2 yX2_empty wsX2_empty) := goodIn_app (goodIn_of _ (by decide +kernel)) ggX10_clear_X2_empty
theorem dX10_clear_0 : decode cX10_clear 0 = .ok (.aload_n 0, 1) := by decide +kernel
theorem dX10_clear_1 : decode cX10_clear 1 = .ok (.getfield 44, 3) := by decide +kernel
theorem dX10_clear_4 : decode cX10_clear 4 = .ok (.invokevirtual 189, 3) := by decide +kernel
theorem dX10_clear_7 : decode cX10_clear 7 = .ok (.ireturn, 1) := by decide +kernel
set_option maxRecDepth 20000 in
theorem ggX10_read_X2_readFrom : GoodIn wsX10_read wsX2_readFrom := goodIn_r _ [7, 8, 9, 10, 11, 12, 13, 14, 15, 16, 17, 18, 19, 20, 21, 37, 38, 39, 40, 41, 42, 43, 44] (by decide +kernel) (by decide +kernel)
set_option maxRecDepth 20000 in
theorem gX10_read_X2_readFrom : GoodIn wsX10_read (wsV RX10 192 RX2 yX2_readFrom wsX2_readFrom) := goodIn_app (goodIn_of _ (by decide +kernel)) ggX10_read_X2_readFrom
theorem dX10_read_0 : decode cX10_read 0 = .ok (.aload_n 0, 1) := by decide +kernel
theorem dX10_read_1 : decode cX10_read 1 = .ok (.getfield 44, 3) := by decide +kernel
theorem dX10_read_4 : decode cX10_read 4 = .ok (.aload_n 0, 1) := by decide +kernel
theorem dX10_read_5 : decode cX10_read 5 = .ok (.getfield 21, 3) := by decide +kernel
theorem dX10_read_8 : decode cX10_read 8 = .ok (.getfield 132, 3) := by decide +kernel
theorem dX10_read_11 : decode cX10_read 11 = .ok (.invokevirtual 192, 3) := by decide +kernel
theorem dX10_read_14 : decode cX10_read 14 = .ok (.lreturn, 1) := by decide +kernel
set_option maxRecDepth 20000 in
theorem ggX10_back_X4_canClaim : GoodIn wsX10_back wsX4_canClaim := goodIn_r _ [8, 9, 10, 11, 12, 13, 14, 15, 16, 17, 18, 64, 65, 66, 67, 68, 69, 70, 71, 72, 76, 77, 78, 79, 80, 81, 82, 83, 84, 85, 86, 87] (by decide +kernel) (by decide +kernel)
set_option maxRecDepth 20000 in
theorem gX10_back_X4_canClaim : GoodIn wsX10_back (wsV RX10 196 RX4 yX4_canClaim wsX4_canClaim) := goodIn_app (goodIn_of _ (by decide +kernel)) ggX10_back_X4_canClaim
set_option maxRecDepth 20000 in
theorem ggX10_back_X1_narrow : GoodIn wsX10_back wsX1_narrow := goodIn_r _ [23, 24, 25, 26, 27, 28, 29, 30, 31, 32, 33, 34, 35, 36, 37, 38, 16, 39, 40, 41, 42, 43, 44, 45, 46, 47, 48, 49, 50, 51, 52, 53, 54, 55, 56, 57, 73, 74, 75, 82, 83, 84, 85, 86, 87, 88, 89, 90] (by decide +kernel) (by decide +kernel)
set_option maxRecDepth 20000 in
theorem gX10_back_X1_narrow : GoodIn wsX10_back (wsV RX10 199 RX1 yX1_narrow wsX1_narrow) := goodIn_app (goodIn_of _ (by decide +kernel)) ggX10_back_X1_narrow
theorem dX10_back_0 : decode cX10_back 0 = .ok (.iload_n 2, 1) := by decide +kernel
theorem dX10_back_1 : decode cX10_back 1 = .ok (.ifCond .lt 19, 3) := by decide +kernel
theorem dX10_back_4 : decode cX10_back 4 = .ok (.iload_n 2, 1) := by decide +kernel
theorem dX10_back_5 : decode cX10_back 5 = .ok (.iconst 1, 1) := by decide +kernel
theorem dX10_back_6 : decode cX10_back 6 = .ok (.if_icmp .gt 14, 3) := by decide +kernel
theorem dX10_back_9 : decode cX10_back 9 = .ok (.aload_n 0, 1) := by decide +kernel
theorem dX10_back_10 : decode cX10_back 10 = .ok (.getfield 21, 3) := by decide +kernel
theorem dX10_back_13 : decode cX10_back 13 = .ok (.iload_n 1, 1) := by decide +kernel
theorem dX10_back_14 : decode cX10_back 14 = .ok (.invokevirtual 196, 3) := by decide +kernel
theorem dX10_back_17 : decode cX10_back 17 = .ok (.ifCond .ne 6, 3) := by decide +kernel
theorem dX10_back_20 : decode cX10_back 20 = .ok (.ldc 128, 2) := by decide +kernel
theorem dX10_back_22 : decode cX10_back 22 = .ok (.ireturn, 1) := by decide +kernel
theorem dX10_back_23 : decode cX10_back 23 = .ok (.aload_n 0, 1) := by decide +kernel
theorem dX10_back_24 : decode cX10_back 24 = .ok (.getfield 51, 3) := by decide +kernel
theorem dX10_back_27 : decode cX10_back 27 = .ok (.aload_n 0, 1) := by decide +kernel
theorem dX10_back_28 : decode cX10_back 28 = .ok (.getfield 21, 3) := by decide +kernel
theorem dX10_back_31 : decode cX10_back 31 = .ok (.getfield 132, 3) := by decide +kernel
theorem dX10_back_34 : decode cX10_back 34 = .ok (.iload_n 1, 1) := by decide +kernel
theorem dX10_back_35 : decode cX10_back 35 = .ok (.invokevirtual 199, 3) := by decide +kernel
theorem dX10_back_38 : decode cX10_back 38 = .ok (.aload_n 0, 1) := by decide +kernel
theorem dX10_back_39 : decode cX10_back 39 = .ok (.getfield 51, 3) := by decide +kernel
theorem dX10_back_42 : decode cX10_back 42 = .ok (.getfield 203, 3) := by decide +kernel
theorem dX10_back_45 : decode cX10_back 45 = .ok (.aload_n 0, 1) := by decide +kernel
theorem dX10_back_46 : decode cX10_back 46 = .ok (.getfield 51, 3) := by decide +kernel
theorem dX10_back_49 : decode cX10_back 49 = .ok (.getfield 207, 3) := by decide +kernel
theorem dX10_back_52 : decode cX10_back 52 = .ok (.lcmp, 1) := by decide +kernel
theorem dX10_back_53 : decode cX10_back 53 = .ok (.ifCond .le 6, 3) := by decide +kernel
theorem dX10_back_56 : decode cX10_back 56 = .ok (.ldc 128, 2) := by decide +kernel
theorem dX10_back_58 : decode cX10_back 58 = .ok (.ireturn, 1) := by decide +kernel
theorem dX10_back_59 : decode cX10_back 59 = .ok (.iload_n 2, 1) := by decide +kernel
theorem dX10_back_60 : decode cX10_back 60 = .ok (.ifCond .ne 13, 3) := by decide +kernel
theorem dX10_back_63 : decode cX10_back 63 = .ok (.aload_n 0, 1) := by decide +kernel
theorem dX10_back_64 : decode cX10_back 64 = .ok (.getfield 51, 3) := by decide +kernel
theorem dX10_back_67 : decode cX10_back 67 = .ok (.getfield 203, 3) := by decide +kernel
theorem dX10_back_70 : decode cX10_back 70 = .ok (.goto 10, 3) := by decide +kernel
theorem dX10_back_73 : decode cX10_back 73 = .ok (.aload_n 0, 1) := by decide +kernel
theorem dX10_back_74 : decode cX10_back 74 = .ok (.getfield 51, 3) := by decide +kernel
theorem dX10_back_77 : decode cX10_back 77 = .ok (.getfield 207, 3) := by decide +kernel
theorem dX10_back_80 : decode cX10_back 80 = .ok (.l2i, 1) := by decide +kernel
theorem dX10_back_81 : decode cX10_back 81 = .ok (.ireturn, 1) := by decide +kernel
set_option maxRecDepth 20000 in
theorem ggX10_range_X10_isWish : GoodIn wsX10_range wsX10_isWish := goodIn_r _ [5, 6, 7, 8, 4, 9] (by decide +kernel) (by decide +kernel)
set_option maxRecDepth 20000 in
theorem gX10_range_X10_isWish : GoodIn wsX10_range (va_wsS RX10 121 yX10_isWish wsX10_isWish) := goodIn_app (goodIn_of _ (by decide +kernel)) ggX10_range_X10_isWish
set_option maxRecDepth 20000 in
theorem ggX10_range_X1_countRows : GoodIn wsX10_range wsX1_countRows := goodIn_r _ [14, 15, 16, 17, 13, 18, 19, 20, 21, 22, 23, 24, 25, 26, 27, 28, 29, 30, 31, 32, 33, 34, 35, 36, 37, 38, 39, 40, 47, 48, 49, 50, 51, 52] (by decide +kernel) (by decide +kernel)
set_option maxRecDepth 20000 in
theorem gX10_range_X1_countRows : GoodIn wsX10_range (wsV RX10 210 RX1 yX1_countRows wsX1_countRows) := goodIn_app (goodIn_of _ (by decide +kernel)) ggX10_range_X1_countRows
theorem dX10_range_0 : decode cX10_range 0 = .ok (.iload_n 1, 1) := by decide +kernel
theorem dX10_range_1 : decode cX10_range 1 = .ok (.iconst 1, 1) := by decide +kernel
theorem dX10_range_2 : decode cX10_range 2 = .ok (.if_icmp .lt 23, 3) := by decide +kernel
theorem dX10_range_5 : decode cX10_range 5 = .ok (.iload_n 1, 1) := by decide +kernel
theorem dX10_range_6 : decode cX10_range 6 = .ok (.bipush 64, 2) := by decide +kernel
theorem dX10_range_8 : decode cX10_range 8 = .ok (.if_icmp .gt 17, 3) := by decide +kernel
theorem dX10_range_11 : decode cX10_range 11 = .ok (.iload_n 2, 1) := by decide +kernel
theorem dX10_range_12 : decode cX10_range 12 = .ok (.invokestatic 121, 3) := by decide +kernel
theorem dX10_range_15 : decode cX10_range 15 = .ok (.ifCond .eq 10, 3) := by decide +kernel
theorem dX10_range_18 : decode cX10_range 18 = .ok (.iload_n 3, 1) := by decide +kernel
theorem dX10_range_19 : decode cX10_range 19 = .ok (.invokestatic 121, 3) := by decide +kernel
theorem dX10_range_22 : decode cX10_range 22 = .ok (.ifCond .ne 5, 3) := by decide +kernel
theorem dX10_range_25 : decode cX10_range 25 = .ok (.iconst (-1), 1) := by decide +kernel
theorem dX10_range_26 : decode cX10_range 26 = .ok (.ireturn, 1) := by decide +kernel
theorem dX10_range_27 : decode cX10_range 27 = .ok (.iload_n 2, 1) := by decide +kernel
theorem dX10_range_28 : decode cX10_range 28 = .ok (.iload_n 3, 1) := by decide +kernel
theorem dX10_range_29 : decode cX10_range 29 = .ok (.if_icmp .gt 12, 3) := by decide +kernel
theorem dX10_range_32 : decode cX10_range 32 = .ok (.iload_n 3, 1) := by decide +kernel
theorem dX10_range_33 : decode cX10_range 33 = .ok (.iload_n 2, 1) := by decide +kernel
theorem dX10_range_34 : decode cX10_range 34 = .ok (.isub, 1) := by decide +kernel
theorem dX10_range_35 : decode cX10_range 35 = .ok (.sipush 2000, 3) := by decide +kernel
theorem dX10_range_38 : decode cX10_range 38 = .ok (.if_icmp .le 5, 3) := by decide +kernel
theorem dX10_range_41 : decode cX10_range 41 = .ok (.iconst (-1), 1) := by decide +kernel
theorem dX10_range_42 : decode cX10_range 42 = .ok (.ireturn, 1) := by decide +kernel
theorem dX10_range_43 : decode cX10_range 43 = .ok (.aload_n 0, 1) := by decide +kernel
theorem dX10_range_44 : decode cX10_range 44 = .ok (.getfield 51, 3) := by decide +kernel
theorem dX10_range_47 : decode cX10_range 47 = .ok (.iload_n 1, 1) := by decide +kernel
theorem dX10_range_48 : decode cX10_range 48 = .ok (.iload_n 2, 1) := by decide +kernel
theorem dX10_range_49 : decode cX10_range 49 = .ok (.iload_n 3, 1) := by decide +kernel
theorem dX10_range_50 : decode cX10_range 50 = .ok (.invokevirtual 210, 3) := by decide +kernel
theorem dX10_range_53 : decode cX10_range 53 = .ok (.ireturn, 1) := by decide +kernel
theorem dX10_part_0 : decode cX10_part 0 = .ok (.iload_n 1, 1) := by decide +kernel
theorem dX10_part_1 : decode cX10_part 1 = .ok (.ifCond .lt 17, 3) := by decide +kernel
theorem dX10_part_4 : decode cX10_part 4 = .ok (.iload_n 1, 1) := by decide +kernel
theorem dX10_part_5 : decode cX10_part 5 = .ok (.aload_n 0, 1) := by decide +kernel
theorem dX10_part_6 : decode cX10_part 6 = .ok (.getfield 21, 3) := by decide +kernel
theorem dX10_part_9 : decode cX10_part 9 = .ok (.getfield 214, 3) := by decide +kernel
theorem dX10_part_12 : decode cX10_part 12 = .ok (.getfield 218, 3) := by decide +kernel
theorem dX10_part_15 : decode cX10_part 15 = .ok (.if_icmp .lt 5, 3) := by decide +kernel
theorem dX10_part_18 : decode cX10_part 18 = .ok (.iconst (-1), 1) := by decide +kernel
theorem dX10_part_19 : decode cX10_part 19 = .ok (.ireturn, 1) := by decide +kernel
theorem dX10_part_20 : decode cX10_part 20 = .ok (.iload_n 2, 1) := by decide +kernel
theorem dX10_part_21 : decode cX10_part 21 = .ok (.lookupswitch 61 #[(0, 27), (1, 48)], 27) := by decide +kernel
theorem dX10_part_48 : decode cX10_part 48 = .ok (.aload_n 0, 1) := by decide +kernel
theorem dX10_part_49 : decode cX10_part 49 = .ok (.getfield 21, 3) := by decide +kernel
theorem dX10_part_52 : decode cX10_part 52 = .ok (.getfield 214, 3) := by decide +kernel
theorem dX10_part_55 : decode cX10_part 55 = .ok (.getfield 223, 3) := by decide +kernel
theorem dX10_part_58 : decode cX10_part 58 = .ok (.iload_n 1, 1) := by decide +kernel
theorem dX10_part_59 : decode cX10_part 59 = .ok (.baload, 1) := by decide +kernel
theorem dX10_part_60 : decode cX10_part 60 = .ok (.ifCond .eq 7, 3) := by decide +kernel
theorem dX10_part_63 : decode cX10_part 63 = .ok (.iconst 1, 1) := by decide +kernel
theorem dX10_part_64 : decode cX10_part 64 = .ok (.goto 4, 3) := by decide +kernel
theorem dX10_part_67 : decode cX10_part 67 = .ok (.iconst 0, 1) := by decide +kernel
theorem dX10_part_68 : decode cX10_part 68 = .ok (.ireturn, 1) := by decide +kernel
theorem dX10_part_69 : decode cX10_part 69 = .ok (.aload_n 0, 1) := by decide +kernel
theorem dX10_part_70 : decode cX10_part 70 = .ok (.getfield 21, 3) := by decide +kernel
theorem dX10_part_73 : decode cX10_part 73 = .ok (.getfield 214, 3) := by decide +kernel
theorem dX10_part_76 : decode cX10_part 76 = .ok (.getfield 227, 3) := by decide +kernel
theorem dX10_part_79 : decode cX10_part 79 = .ok (.iload_n 1, 1) := by decide +kernel
theorem dX10_part_80 : decode cX10_part 80 = .ok (.iaload, 1) := by decide +kernel
theorem dX10_part_81 : decode cX10_part 81 = .ok (.ireturn, 1) := by decide +kernel
theorem dX10_part_82 : decode cX10_part 82 = .ok (.iconst (-1), 1) := by decide +kernel
theorem dX10_part_83 : decode cX10_part 83 = .ok (.ireturn, 1) := by decide +kernel
set_option maxRecDepth 20000 in
theorem ggX10_spread_X9_mostLessLeast : GoodIn wsX10_spread wsX9_mostLessLeast := goodIn_r _ [6, 7, 8, 9, 10, 11, 12, 13, 14, 15, 37, 38, 39, 40, 41] (by decide +kernel) (by decide +kernel)
set_option maxRecDepth 20000 in
theorem gX10_spread_X9_mostLessLeast : GoodIn wsX10_spread (wsV RX10 231 RX9 yX9_mostLessLeast wsX9_mostLessLeast) := goodIn_app (goodIn_of _ (by decide +kernel)) ggX10_spread_X9_mostLessLeast
theorem dX10_spread_0 : decode cX10_spread 0 = .ok (.aload_n 0, 1) := by decide +kernel
theorem dX10_spread_1 : decode cX10_spread 1 = .ok (.getfield 21, 3) := by decide +kernel
theorem dX10_spread_4 : decode cX10_spread 4 = .ok (.getfield 74, 3) := by decide +kernel
theorem dX10_spread_7 : decode cX10_spread 7 = .ok (.getfield 90, 3) := by decide +kernel
theorem dX10_spread_10 : decode cX10_spread 10 = .ok (.iconst 4, 1) := by decide +kernel
theorem dX10_spread_11 : decode cX10_spread 11 = .ok (.if_icmp .ne 16, 3) := by decide +kernel
theorem dX10_spread_14 : decode cX10_spread 14 = .ok (.aload_n 0, 1) := by decide +kernel
theorem dX10_spread_15 : decode cX10_spread 15 = .ok (.getfield 21, 3) := by decide +kernel
theorem dX10_spread_18 : decode cX10_spread 18 = .ok (.getfield 214, 3) := by decide +kernel
theorem dX10_spread_21 : decode cX10_spread 21 = .ok (.invokevirtual 231, 3) := by decide +kernel
theorem dX10_spread_24 : decode cX10_spread 24 = .ok (.goto 4, 3) := by decide +kernel
theorem dX10_spread_27 : decode cX10_spread 27 = .ok (.iconst (-1), 1) := by decide +kernel
theorem dX10_spread_28 : decode cX10_spread 28 = .ok (.ireturn, 1) := by decide +kernel
theorem dX10_about_0 : decode cX10_about 0 = .ok (.iload_n 1, 1) := by decide +kernel
theorem dX10_about_1 : decode cX10_about 1 = .ok (.tableswitch 138 0 8 #[51, 59, 67, 78, 89, 100, 108, 119, 127], 51) := by decide +kernel
theorem dX10_about_52 : decode cX10_about 52 = .ok (.aload_n 0, 1) := by decide +kernel
theorem dX10_about_53 : decode cX10_about 53 = .ok (.getfield 10, 3) := by decide +kernel
theorem dX10_about_56 : decode cX10_about 56 = .ok (.getfield 55, 3) := by decide +kernel
theorem dX10_about_59 : decode cX10_about 59 = .ok (.ireturn, 1) := by decide +kernel
theorem dX10_about_60 : decode cX10_about 60 = .ok (.aload_n 0, 1) := by decide +kernel
theorem dX10_about_61 : decode cX10_about 61 = .ok (.getfield 10, 3) := by decide +kernel
theorem dX10_about_64 : decode cX10_about 64 = .ok (.getfield 234, 3) := by decide +kernel
theorem dX10_about_67 : decode cX10_about 67 = .ok (.ireturn, 1) := by decide +kernel
theorem dX10_about_68 : decode cX10_about 68 = .ok (.aload_n 0, 1) := by decide +kernel
theorem dX10_about_69 : decode cX10_about 69 = .ok (.getfield 21, 3) := by decide +kernel
theorem dX10_about_72 : decode cX10_about 72 = .ok (.getfield 74, 3) := by decide +kernel
theorem dX10_about_75 : decode cX10_about 75 = .ok (.getfield 90, 3) := by decide +kernel
theorem dX10_about_78 : decode cX10_about 78 = .ok (.ireturn, 1) := by decide +kernel
theorem dX10_about_79 : decode cX10_about 79 = .ok (.aload_n 0, 1) := by decide +kernel
theorem dX10_about_80 : decode cX10_about 80 = .ok (.getfield 21, 3) := by decide +kernel
theorem dX10_about_83 : decode cX10_about 83 = .ok (.getfield 74, 3) := by decide +kernel
theorem dX10_about_86 : decode cX10_about 86 = .ok (.getfield 78, 3) := by decide +kernel
theorem dX10_about_89 : decode cX10_about 89 = .ok (.ireturn, 1) := by decide +kernel
theorem dX10_about_90 : decode cX10_about 90 = .ok (.aload_n 0, 1) := by decide +kernel
theorem dX10_about_91 : decode cX10_about 91 = .ok (.getfield 21, 3) := by decide +kernel
theorem dX10_about_94 : decode cX10_about 94 = .ok (.getfield 214, 3) := by decide +kernel
theorem dX10_about_97 : decode cX10_about 97 = .ok (.getfield 218, 3) := by decide +kernel
theorem dX10_about_100 : decode cX10_about 100 = .ok (.ireturn, 1) := by decide +kernel
theorem dX10_about_101 : decode cX10_about 101 = .ok (.aload_n 0, 1) := by decide +kernel
theorem dX10_about_102 : decode cX10_about 102 = .ok (.getfield 21, 3) := by decide +kernel
theorem dX10_about_105 : decode cX10_about 105 = .ok (.getfield 114, 3) := by decide +kernel
theorem dX10_about_108 : decode cX10_about 108 = .ok (.ireturn, 1) := by decide +kernel
theorem dX10_about_109 : decode cX10_about 109 = .ok (.aload_n 0, 1) := by decide +kernel
theorem dX10_about_110 : decode cX10_about 110 = .ok (.getfield 21, 3) := by decide +kernel
theorem dX10_about_113 : decode cX10_about 113 = .ok (.getfield 132, 3) := by decide +kernel
theorem dX10_about_116 : decode cX10_about 116 = .ok (.getfield 237, 3) := by decide +kernel
theorem dX10_about_119 : decode cX10_about 119 = .ok (.ireturn, 1) := by decide +kernel
theorem dX10_about_120 : decode cX10_about 120 = .ok (.aload_n 0, 1) := by decide +kernel
theorem dX10_about_121 : decode cX10_about 121 = .ok (.getfield 44, 3) := by decide +kernel
theorem dX10_about_124 : decode cX10_about 124 = .ok (.getfield 240, 3) := by decide +kernel
theorem dX10_about_127 : decode cX10_about 127 = .ok (.ireturn, 1) := by decide +kernel
theorem dX10_about_128 : decode cX10_about 128 = .ok (.aload_n 0, 1) := by decide +kernel
theorem dX10_about_129 : decode cX10_about 129 = .ok (.getfield 21, 3) := by decide +kernel
theorem dX10_about_132 : decode cX10_about 132 = .ok (.getfield 214, 3) := by decide +kernel
theorem dX10_about_135 : decode cX10_about 135 = .ok (.getfield 241, 3) := by decide +kernel
theorem dX10_about_138 : decode cX10_about 138 = .ok (.ireturn, 1) := by decide +kernel
theorem dX10_about_139 : decode cX10_about 139 = .ok (.iconst (-1), 1) := by decide +kernel
theorem dX10_about_140 : decode cX10_about 140 = .ok (.ireturn, 1) := by decide +kernel
theorem dX10_step_0 : decode cX10_step 0 = .ok (.iload_n 1, 1) := by decide +kernel
theorem dX10_step_1 : decode cX10_step 1 = .ok (.ifCond .lt 26, 3) := by decide +kernel
theorem dX10_step_4 : decode cX10_step 4 = .ok (.iload_n 1, 1) := by decide +kernel
theorem dX10_step_5 : decode cX10_step 5 = .ok (.aload_n 0, 1) := by decide +kernel
theorem dX10_step_6 : decode cX10_step 6 = .ok (.getfield 10, 3) := by decide +kernel
theorem dX10_step_9 : decode cX10_step 9 = .ok (.getfield 234, 3) := by decide +kernel
theorem dX10_step_12 : decode cX10_step 12 = .ok (.if_icmp .ge 15, 3) := by decide +kernel
theorem dX10_step_15 : decode cX10_step 15 = .ok (.aload_n 0, 1) := by decide +kernel
theorem dX10_step_16 : decode cX10_step 16 = .ok (.getfield 10, 3) := by decide +kernel
theorem dX10_step_19 : decode cX10_step 19 = .ok (.getfield 244, 3) := by decide +kernel
theorem dX10_step_22 : decode cX10_step 22 = .ok (.iload_n 1, 1) := by decide +kernel
theorem dX10_step_23 : decode cX10_step 23 = .ok (.iaload, 1) := by decide +kernel
theorem dX10_step_24 : decode cX10_step 24 = .ok (.goto 5, 3) := by decide +kernel
theorem dX10_step_27 : decode cX10_step 27 = .ok (.ldc 128, 2) := by decide +kernel
theorem dX10_step_29 : decode cX10_step 29 = .ok (.ireturn, 1) := by decide +kernel
theorem dX10_isWithin_0 : decode cX10_isWithin 0 = .ok (.iload_n 0, 1) := by decide +kernel
theorem dX10_isWithin_1 : decode cX10_isWithin 1 = .ok (.iload_n 1, 1) := by decide +kernel
theorem dX10_isWithin_2 : decode cX10_isWithin 2 = .ok (.ineg, 1) := by decide +kernel
theorem dX10_isWithin_3 : decode cX10_isWithin 3 = .ok (.if_icmp .lt 12, 3) := by decide +kernel
theorem dX10_isWithin_6 : decode cX10_isWithin 6 = .ok (.iload_n 0, 1) := by decide +kernel
theorem dX10_isWithin_7 : decode cX10_isWithin 7 = .ok (.iload_n 1, 1) := by decide +kernel
theorem dX10_isWithin_8 : decode cX10_isWithin 8 = .ok (.if_icmp .gt 7, 3) := by decide +kernel
theorem dX10_isWithin_11 : decode cX10_isWithin 11 = .ok (.iconst 1, 1) := by decide +kernel
theorem dX10_isWithin_12 : decode cX10_isWithin 12 = .ok (.goto 4, 3) := by decide +kernel
theorem dX10_isWithin_15 : decode cX10_isWithin 15 = .ok (.iconst 0, 1) := by decide +kernel
theorem dX10_isWithin_16 : decode cX10_isWithin 16 = .ok (.ireturn, 1) := by decide +kernel
set_option maxRecDepth 20000 in
theorem ggX10_isWish_X10_isWithin : GoodIn wsX10_isWish wsX10_isWithin := goodIn_r _ [5] (by decide +kernel) (by decide +kernel)
set_option maxRecDepth 20000 in
theorem gX10_isWish_X10_isWithin : GoodIn wsX10_isWish (va_wsS RX10 93 yX10_isWithin wsX10_isWithin) := goodIn_app (goodIn_of _ (by decide +kernel)) ggX10_isWish_X10_isWithin
theorem dX10_isWish_0 : decode cX10_isWish 0 = .ok (.iload_n 0, 1) := by decide +kernel
theorem dX10_isWish_1 : decode cX10_isWish 1 = .ok (.ldc 176, 2) := by decide +kernel
theorem dX10_isWish_3 : decode cX10_isWish 3 = .ok (.invokestatic 93, 3) := by decide +kernel
theorem dX10_isWish_6 : decode cX10_isWish 6 = .ok (.ireturn, 1) := by decide +kernel
theorem dX10_isSum_0 : decode cX10_isSum 0 = .ok (.lload_n 0, 1) := by decide +kernel
theorem dX10_isSum_1 : decode cX10_isSum 1 = .ok (.ldc2_w 247, 3) := by decide +kernel
theorem dX10_isSum_4 : decode cX10_isSum 4 = .ok (.lcmp, 1) := by decide +kernel
theorem dX10_isSum_5 : decode cX10_isSum 5 = .ok (.ifCond .lt 15, 3) := by decide +kernel
theorem dX10_isSum_8 : decode cX10_isSum 8 = .ok (.lload_n 0, 1) := by decide +kernel
theorem dX10_isSum_9 : decode cX10_isSum 9 = .ok (.ldc2_w 249, 3) := by decide +kernel
theorem dX10_isSum_12 : decode cX10_isSum 12 = .ok (.lcmp, 1) := by decide +kernel
theorem dX10_isSum_13 : decode cX10_isSum 13 = .ok (.ifCond .gt 7, 3) := by decide +kernel
theorem dX10_isSum_16 : decode cX10_isSum 16 = .ok (.iconst 1, 1) := by decide +kernel
theorem dX10_isSum_17 : decode cX10_isSum 17 = .ok (.goto 4, 3) := by decide +kernel
theorem dX10_isSum_20 : decode cX10_isSum 20 = .ok (.iconst 0, 1) := by decide +kernel
theorem dX10_isSum_21 : decode cX10_isSum 21 = .ok (.ireturn, 1) := by decide +kernel
theorem dX10_canLoop_0 : decode cX10_canLoop 0 = .ok (.iload_n 0, 1) := by decide +kernel
theorem dX10_canLoop_1 : decode cX10_canLoop 1 = .ok (.tableswitch 115 0 4 #[35, 35, 49, 69, 89], 35) := by decide +kernel
theorem dX10_canLoop_36 : decode cX10_canLoop 36 = .ok (.iload_n 1, 1) := by decide +kernel
theorem dX10_canLoop_37 : decode cX10_canLoop 37 = .ok (.ifCond .ne 11, 3) := by decide +kernel
theorem dX10_canLoop_40 : decode cX10_canLoop 40 = .ok (.iload_n 2, 1) := by decide +kernel
theorem dX10_canLoop_41 : decode cX10_canLoop 41 = .ok (.ifCond .ne 7, 3) := by decide +kernel
theorem dX10_canLoop_44 : decode cX10_canLoop 44 = .ok (.iconst 1, 1) := by decide +kernel
theorem dX10_canLoop_45 : decode cX10_canLoop 45 = .ok (.goto 4, 3) := by decide +kernel
theorem dX10_canLoop_48 : decode cX10_canLoop 48 = .ok (.iconst 0, 1) := by decide +kernel
theorem dX10_canLoop_49 : decode cX10_canLoop 49 = .ok (.ireturn, 1) := by decide +kernel
theorem dX10_canLoop_50 : decode cX10_canLoop 50 = .ok (.iload_n 1, 1) := by decide +kernel
theorem dX10_canLoop_51 : decode cX10_canLoop 51 = .ok (.iconst 1, 1) := by decide +kernel
theorem dX10_canLoop_52 : decode cX10_canLoop 52 = .ok (.if_icmp .lt 16, 3) := by decide +kernel
theorem dX10_canLoop_55 : decode cX10_canLoop 55 = .ok (.iload_n 1, 1) := by decide +kernel
theorem dX10_canLoop_56 : decode cX10_canLoop 56 = .ok (.iconst 4, 1) := by decide +kernel
theorem dX10_canLoop_57 : decode cX10_canLoop 57 = .ok (.if_icmp .gt 11, 3) := by decide +kernel
theorem dX10_canLoop_60 : decode cX10_canLoop 60 = .ok (.iload_n 2, 1) := by decide +kernel
theorem dX10_canLoop_61 : decode cX10_canLoop 61 = .ok (.ifCond .ne 7, 3) := by decide +kernel
theorem dX10_canLoop_64 : decode cX10_canLoop 64 = .ok (.iconst 1, 1) := by decide +kernel
theorem dX10_canLoop_65 : decode cX10_canLoop 65 = .ok (.goto 4, 3) := by decide +kernel
theorem dX10_canLoop_68 : decode cX10_canLoop 68 = .ok (.iconst 0, 1) := by decide +kernel
theorem dX10_canLoop_69 : decode cX10_canLoop 69 = .ok (.ireturn, 1) := by decide +kernel
theorem dX10_canLoop_70 : decode cX10_canLoop 70 = .ok (.iload_n 1, 1) := by decide +kernel
theorem dX10_canLoop_71 : decode cX10_canLoop 71 = .ok (.iconst 2, 1) := by decide +kernel
theorem dX10_canLoop_72 : decode cX10_canLoop 72 = .ok (.if_icmp .lt 16, 3) := by decide +kernel
theorem dX10_canLoop_75 : decode cX10_canLoop 75 = .ok (.iload_n 1, 1) := by decide +kernel
theorem dX10_canLoop_76 : decode cX10_canLoop 76 = .ok (.iconst 3, 1) := by decide +kernel
theorem dX10_canLoop_77 : decode cX10_canLoop 77 = .ok (.if_icmp .gt 11, 3) := by decide +kernel
theorem dX10_canLoop_80 : decode cX10_canLoop 80 = .ok (.iload_n 2, 1) := by decide +kernel
theorem dX10_canLoop_81 : decode cX10_canLoop 81 = .ok (.ifCond .ne 7, 3) := by decide +kernel
theorem dX10_canLoop_84 : decode cX10_canLoop 84 = .ok (.iconst 1, 1) := by decide +kernel
theorem dX10_canLoop_85 : decode cX10_canLoop 85 = .ok (.goto 4, 3) := by decide +kernel
theorem dX10_canLoop_88 : decode cX10_canLoop 88 = .ok (.iconst 0, 1) := by decide +kernel
theorem dX10_canLoop_89 : decode cX10_canLoop 89 = .ok (.ireturn, 1) := by decide +kernel
theorem dX10_canLoop_90 : decode cX10_canLoop 90 = .ok (.iload_n 1, 1) := by decide +kernel
theorem dX10_canLoop_91 : decode cX10_canLoop 91 = .ok (.iconst 2, 1) := by decide +kernel
theorem dX10_canLoop_92 : decode cX10_canLoop 92 = .ok (.if_icmp .lt 22, 3) := by decide +kernel
theorem dX10_canLoop_95 : decode cX10_canLoop 95 = .ok (.iload_n 1, 1) := by decide +kernel
theorem dX10_canLoop_96 : decode cX10_canLoop 96 = .ok (.bipush 16, 2) := by decide +kernel
theorem dX10_canLoop_98 : decode cX10_canLoop 98 = .ok (.if_icmp .gt 16, 3) := by decide +kernel
theorem dX10_canLoop_101 : decode cX10_canLoop 101 = .ok (.iload_n 2, 1) := by decide +kernel
theorem dX10_canLoop_102 : decode cX10_canLoop 102 = .ok (.ifCond .eq 8, 3) := by decide +kernel
theorem dX10_canLoop_105 : decode cX10_canLoop 105 = .ok (.iload_n 2, 1) := by decide +kernel
theorem dX10_canLoop_106 : decode cX10_canLoop 106 = .ok (.iconst 1, 1) := by decide +kernel
theorem dX10_canLoop_107 : decode cX10_canLoop 107 = .ok (.if_icmp .ne 7, 3) := by decide +kernel
theorem dX10_canLoop_110 : decode cX10_canLoop 110 = .ok (.iconst 1, 1) := by decide +kernel
theorem dX10_canLoop_111 : decode cX10_canLoop 111 = .ok (.goto 4, 3) := by decide +kernel
theorem dX10_canLoop_114 : decode cX10_canLoop 114 = .ok (.iconst 0, 1) := by decide +kernel
theorem dX10_canLoop_115 : decode cX10_canLoop 115 = .ok (.ireturn, 1) := by decide +kernel
theorem dX10_canLoop_116 : decode cX10_canLoop 116 = .ok (.iconst 0, 1) := by decide +kernel
theorem dX10_canLoop_117 : decode cX10_canLoop 117 = .ok (.ireturn, 1) := by decide +kernel
theorem dX11_init_0 : decode cX11_init 0 = .ok (.aload_n 0, 1) := by decide +kernel
theorem dX11_init_1 : decode cX11_init 1 = .ok (.invokespecial 1, 3) := by decide +kernel
theorem dX11_init_4 : decode cX11_init 4 = .ok (.aload_n 0, 1) := by decide +kernel
theorem dX11_init_5 : decode cX11_init 5 = .ok (.iconst 1, 1) := by decide +kernel
theorem dX11_init_6 : decode cX11_init 6 = .ok (.putfield 7, 3) := by decide +kernel
theorem dX11_init_9 : decode cX11_init 9 = .ok (.aload_n 0, 1) := by decide +kernel
theorem dX11_init_10 : decode cX11_init 10 = .ok (.iconst 2, 1) := by decide +kernel
theorem dX11_init_11 : decode cX11_init 11 = .ok (.putfield 13, 3) := by decide +kernel
theorem dX11_init_14 : decode cX11_init 14 = .ok (.aload_n 0, 1) := by decide +kernel
theorem dX11_init_15 : decode cX11_init 15 = .ok (.iconst 1, 1) := by decide +kernel
theorem dX11_init_16 : decode cX11_init 16 = .ok (.putfield 16, 3) := by decide +kernel
theorem dX11_init_19 : decode cX11_init 19 = .ok (.aload_n 0, 1) := by decide +kernel
theorem dX11_init_20 : decode cX11_init 20 = .ok (.bipush 8, 2) := by decide +kernel
theorem dX11_init_22 : decode cX11_init 22 = .ok (.newarray .int, 2) := by decide +kernel
theorem dX11_init_24 : decode cX11_init 24 = .ok (.putfield 19, 3) := by decide +kernel
theorem dX11_init_27 : decode cX11_init 27 = .ok (.aload_n 0, 1) := by decide +kernel
theorem dX11_init_28 : decode cX11_init 28 = .ok (.bipush 8, 2) := by decide +kernel
theorem dX11_init_30 : decode cX11_init 30 = .ok (.newarray .int, 2) := by decide +kernel
theorem dX11_init_32 : decode cX11_init 32 = .ok (.putfield 23, 3) := by decide +kernel
theorem dX11_init_35 : decode cX11_init 35 = .ok (.aload_n 0, 1) := by decide +kernel
theorem dX11_init_36 : decode cX11_init 36 = .ok (.bipush 16, 2) := by decide +kernel
theorem dX11_init_38 : decode cX11_init 38 = .ok (.newarray .int, 2) := by decide +kernel
theorem dX11_init_40 : decode cX11_init 40 = .ok (.putfield 26, 3) := by decide +kernel
theorem dX11_init_43 : decode cX11_init 43 = .ok (.aload_n 0, 1) := by decide +kernel
theorem dX11_init_44 : decode cX11_init 44 = .ok (.iconst 4, 1) := by decide +kernel
theorem dX11_init_45 : decode cX11_init 45 = .ok (.newarray .int, 2) := by decide +kernel
theorem dX11_init_47 : decode cX11_init 47 = .ok (.putfield 29, 3) := by decide +kernel
theorem dX11_init_50 : decode cX11_init 50 = .ok (.aload_n 0, 1) := by decide +kernel
theorem dX11_init_51 : decode cX11_init 51 = .ok (.iconst 4, 1) := by decide +kernel
theorem dX11_init_52 : decode cX11_init 52 = .ok (.newarray .int, 2) := by decide +kernel
theorem dX11_init_54 : decode cX11_init 54 = .ok (.putfield 32, 3) := by decide +kernel
theorem dX11_init_57 : decode cX11_init 57 = .ok (.aload_n 0, 1) := by decide +kernel
theorem dX11_init_58 : decode cX11_init 58 = .ok (.iconst 4, 1) := by decide +kernel
theorem dX11_init_59 : decode cX11_init 59 = .ok (.newarray .int, 2) := by decide +kernel
theorem dX11_init_61 : decode cX11_init 61 = .ok (.putfield 35, 3) := by decide +kernel
theorem dX11_init_64 : decode cX11_init 64 = .ok (.aload_n 0, 1) := by decide +kernel
theorem dX11_init_65 : decode cX11_init 65 = .ok (.iconst 4, 1) := by decide +kernel
theorem dX11_init_66 : decode cX11_init 66 = .ok (.newarray .long, 2) := by decide +kernel
theorem dX11_init_68 : decode cX11_init 68 = .ok (.putfield 38, 3) := by decide +kernel
theorem dX11_init_71 : decode cX11_init 71 = .ok (.aload_n 0, 1) := by decide +kernel
theorem dX11_init_72 : decode cX11_init 72 = .ok (.iconst 4, 1) := by decide +kernel
theorem dX11_init_73 : decode cX11_init 73 = .ok (.newarray .long, 2) := by decide +kernel
theorem dX11_init_75 : decode cX11_init 75 = .ok (.putfield 42, 3) := by decide +kernel
theorem dX11_init_78 : decode cX11_init 78 = .ok (.aload_n 0, 1) := by decide +kernel
theorem dX11_init_79 : decode cX11_init 79 = .ok (.iconst 4, 1) := by decide +kernel
theorem dX11_init_80 : decode cX11_init 80 = .ok (.newarray .long, 2) := by decide +kernel
theorem dX11_init_82 : decode cX11_init 82 = .ok (.putfield 45, 3) := by decide +kernel
theorem dX11_init_85 : decode cX11_init 85 = .ok (.aload_n 0, 1) := by decide +kernel
theorem dX11_init_86 : decode cX11_init 86 = .ok (.bipush 16, 2) := by decide +kernel
theorem dX11_init_88 : decode cX11_init 88 = .ok (.newarray .int, 2) := by decide +kernel
theorem dX11_init_90 : decode cX11_init 90 = .ok (.putfield 48, 3) := by decide +kernel
theorem dX11_init_93 : decode cX11_init 93 = .ok (.aload_n 0, 1) := by decide +kernel
theorem dX11_init_94 : decode cX11_init 94 = .ok (.bipush 16, 2) := by decide +kernel
theorem dX11_init_96 : decode cX11_init 96 = .ok (.newarray .int, 2) := by decide +kernel
theorem dX11_init_98 : decode cX11_init 98 = .ok (.putfield 51, 3) := by decide +kernel
theorem dX11_init_101 : decode cX11_init 101 = .ok (.aload_n 0, 1) := by decide +kernel
theorem dX11_init_102 : decode cX11_init 102 = .ok (.sipush 256, 3) := by decide +kernel
theorem dX11_init_105 : decode cX11_init 105 = .ok (.newarray .int, 2) := by decide +kernel
theorem dX11_init_107 : decode cX11_init 107 = .ok (.putfield 54, 3) := by decide +kernel
theorem dX11_init_110 : decode cX11_init 110 = .ok (.aload_n 0, 1) := by decide +kernel
theorem dX11_init_111 : decode cX11_init 111 = .ok (.sipush 256, 3) := by decide +kernel
theorem dX11_init_114 : decode cX11_init 114 = .ok (.newarray .int, 2) := by decide +kernel
theorem dX11_init_116 : decode cX11_init 116 = .ok (.putfield 57, 3) := by decide +kernel
theorem dX11_init_119 : decode cX11_init 119 = .ok (.aload_n 0, 1) := by decide +kernel
theorem dX11_init_120 : decode cX11_init 120 = .ok (.sipush 256, 3) := by decide +kernel
theorem dX11_init_123 : decode cX11_init 123 = .ok (.newarray .long, 2) := by decide +kernel
theorem dX11_init_125 : decode cX11_init 125 = .ok (.putfield 60, 3) := by decide +kernel
theorem dX11_init_128 : decode cX11_init 128 = .ok (.aload_n 0, 1) := by decide +kernel
theorem dX11_init_129 : decode cX11_init 129 = .ok (.bipush 64, 2) := by decide +kernel
theorem dX11_init_131 : decode cX11_init 131 = .ok (.newarray .int, 2) := by decide +kernel
theorem dX11_init_133 : decode cX11_init 133 = .ok (.putfield 63, 3) := by decide +kernel
theorem dX11_init_136 : decode cX11_init 136 = .ok (.aload_n 0, 1) := by decide +kernel
theorem dX11_init_137 : decode cX11_init 137 = .ok (.iconst 4, 1) := by decide +kernel
theorem dX11_init_138 : decode cX11_init 138 = .ok (.newarray .long, 2) := by decide +kernel
theorem dX11_init_140 : decode cX11_init 140 = .ok (.putfield 66, 3) := by decide +kernel
theorem dX11_init_143 : decode cX11_init 143 = .ok (.aload_n 0, 1) := by decide +kernel
theorem dX11_init_144 : decode cX11_init 144 = .ok (.iconst 4, 1) := by decide +kernel
theorem dX11_init_145 : decode cX11_init 145 = .ok (.newarray .long, 2) := by decide +kernel
theorem dX11_init_147 : decode cX11_init 147 = .ok (.putfield 69, 3) := by decide +kernel
theorem dX11_init_150 : decode cX11_init 150 = .ok (.aload_n 0, 1) := by decide +kernel
theorem dX11_init_151 : decode cX11_init 151 = .ok (.iconst 3, 1) := by decide +kernel
theorem dX11_init_152 : decode cX11_init 152 = .ok (.newarray .int, 2) := by decide +kernel
theorem dX11_init_154 : decode cX11_init 154 = .ok (.putfield 72, 3) := by decide +kernel
theorem dX11_init_157 : decode cX11_init 157 = .ok (.aload_n 0, 1) := by decide +kernel
theorem dX11_init_158 : decode cX11_init 158 = .ok (.sipush 16388, 3) := by decide +kernel
theorem dX11_init_161 : decode cX11_init 161 = .ok (.newarray .long, 2) := by decide +kernel
theorem dX11_init_163 : decode cX11_init 163 = .ok (.putfield 75, 3) := by decide +kernel
theorem dX11_init_166 : decode cX11_init 166 = .ok (.aload_n 0, 1) := by decide +kernel
theorem dX11_init_167 : decode cX11_init 167 = .ok (.bipush 64, 2) := by decide +kernel
theorem dX11_init_169 : decode cX11_init 169 = .ok (.newarray .int, 2) := by decide +kernel
theorem dX11_init_171 : decode cX11_init 171 = .ok (.putfield 78, 3) := by decide +kernel
theorem dX11_init_174 : decode cX11_init 174 = .ok (.aload_n 0, 1) := by decide +kernel
theorem dX11_init_175 : decode cX11_init 175 = .ok (.getfield 19, 3) := by decide +kernel
theorem dX11_init_178 : decode cX11_init 178 = .ok (.iconst 1, 1) := by decide +kernel
theorem dX11_init_179 : decode cX11_init 179 = .ok (.iconst 1, 1) := by decide +kernel
theorem dX11_init_180 : decode cX11_init 180 = .ok (.iastore, 1) := by decide +kernel
theorem dX11_init_181 : decode cX11_init 181 = .ok (.return_, 1) := by decide +kernel
theorem dX11_anew_0 : decode cX11_anew 0 = .ok (.iconst 0, 1) := by decide +kernel
theorem dX11_anew_1 : decode cX11_anew 1 = .ok (.istore_n 1, 1) := by decide +kernel
theorem dX11_anew_2 : decode cX11_anew 2 = .ok (.iload_n 1, 1) := by decide +kernel
theorem dX11_anew_3 : decode cX11_anew 3 = .ok (.iconst 4, 1) := by decide +kernel
theorem dX11_anew_4 : decode cX11_anew 4 = .ok (.if_icmp .ge 16, 3) := by decide +kernel
theorem dX11_anew_7 : decode cX11_anew 7 = .ok (.aload_n 0, 1) := by decide +kernel
theorem dX11_anew_8 : decode cX11_anew 8 = .ok (.getfield 38, 3) := by decide +kernel
theorem dX11_anew_11 : decode cX11_anew 11 = .ok (.iload_n 1, 1) := by decide +kernel
theorem dX11_anew_12 : decode cX11_anew 12 = .ok (.lconst 0, 1) := by decide +kernel
theorem dX11_anew_13 : decode cX11_anew 13 = .ok (.lastore, 1) := by decide +kernel
theorem dX11_anew_14 : decode cX11_anew 14 = .ok (.iinc 1 1, 3) := by decide +kernel
theorem dX11_anew_17 : decode cX11_anew 17 = .ok (.goto (-15), 3) := by decide +kernel
theorem dX11_anew_20 : decode cX11_anew 20 = .ok (.iconst 0, 1) := by decide +kernel
theorem dX11_anew_21 : decode cX11_anew 21 = .ok (.istore_n 1, 1) := by decide +kernel
theorem dX11_anew_22 : decode cX11_anew 22 = .ok (.iload_n 1, 1) := by decide +kernel
theorem dX11_anew_23 : decode cX11_anew 23 = .ok (.bipush 16, 2) := by decide +kernel
theorem dX11_anew_25 : decode cX11_anew 25 = .ok (.if_icmp .ge 23, 3) := by decide +kernel
theorem dX11_anew_28 : decode cX11_anew 28 = .ok (.aload_n 0, 1) := by decide +kernel
theorem dX11_anew_29 : decode cX11_anew 29 = .ok (.getfield 48, 3) := by decide +kernel
theorem dX11_anew_32 : decode cX11_anew 32 = .ok (.iload_n 1, 1) := by decide +kernel
theorem dX11_anew_33 : decode cX11_anew 33 = .ok (.iconst 0, 1) := by decide +kernel
theorem dX11_anew_34 : decode cX11_anew 34 = .ok (.iastore, 1) := by decide +kernel
theorem dX11_anew_35 : decode cX11_anew 35 = .ok (.aload_n 0, 1) := by decide +kernel
theorem dX11_anew_36 : decode cX11_anew 36 = .ok (.getfield 51, 3) := by decide +kernel
theorem dX11_anew_39 : decode cX11_anew 39 = .ok (.iload_n 1, 1) := by decide +kernel
theorem dX11_anew_40 : decode cX11_anew 40 = .ok (.iconst 0, 1) := by decide +kernel
theorem dX11_anew_41 : decode cX11_anew 41 = .ok (.iastore, 1) := by decide +kernel
theorem dX11_anew_42 : decode cX11_anew 42 = .ok (.iinc 1 1, 3) := by decide +kernel
theorem dX11_anew_45 : decode cX11_anew 45 = .ok (.goto (-23), 3) := by decide +kernel
theorem dX11_anew_48 : decode cX11_anew 48 = .ok (.aload_n 0, 1) := by decide +kernel
theorem dX11_anew_49 : decode cX11_anew 49 = .ok (.iconst 0, 1) := by decide +kernel
theorem dX11_anew_50 : decode cX11_anew 50 = .ok (.putfield 81, 3) := by decide +kernel
theorem dX11_anew_53 : decode cX11_anew 53 = .ok (.aload_n 0, 1) := by decide +kernel
theorem dX11_anew_54 : decode cX11_anew 54 = .ok (.iconst 0, 1) := by decide +kernel
theorem dX11_anew_55 : decode cX11_anew 55 = .ok (.putfield 84, 3) := by decide +kernel
theorem dX11_anew_58 : decode cX11_anew 58 = .ok (.aload_n 0, 1) := by decide +kernel
theorem dX11_anew_59 : decode cX11_anew 59 = .ok (.iconst 0, 1) := by decide +kernel
theorem dX11_anew_60 : decode cX11_anew 60 = .ok (.putfield 87, 3) := by decide +kernel
theorem dX11_anew_63 : decode cX11_anew 63 = .ok (.aload_n 0, 1) := by decide +kernel
theorem dX11_anew_64 : decode cX11_anew 64 = .ok (.iconst 0, 1) := by decide +kernel
theorem dX11_anew_65 : decode cX11_anew 65 = .ok (.putfield 90, 3) := by decide +kernel
theorem dX11_anew_68 : decode cX11_anew 68 = .ok (.aload_n 0, 1) := by decide +kernel
theorem dX11_anew_69 : decode cX11_anew 69 = .ok (.iconst 0, 1) := by decide +kernel
theorem dX11_anew_70 : decode cX11_anew 70 = .ok (.putfield 93, 3) := by decide +kernel
theorem dX11_anew_73 : decode cX11_anew 73 = .ok (.aload_n 0, 1) := by decide +kernel
theorem dX11_anew_74 : decode cX11_anew 74 = .ok (.iconst 0, 1) := by decide +kernel
theorem dX11_anew_75 : decode cX11_anew 75 = .ok (.putfield 96, 3) := by decide +kernel
theorem dX11_anew_78 : decode cX11_anew 78 = .ok (.return_, 1) := by decide +kernel
set_option maxRecDepth 20000 in
theorem ggX11_over_X11_anew : GoodIn wsX11_over wsX11_anew := goodIn_r _ [6, 7, 8, 9, 10, 11, 12, 13, 14, 15, 16, 17, 18, 19, 20, 21, 22, 23, 24, 25, 26, 27, 28, 29, 30, 31, 32, 33, 34, 35, 36, 37, 38, 39, 40, 41, 42, 43, 44, 45, 46, 47, 48, 49, 50] (by decide +kernel) (by decide +kernel)
set_option maxRecDepth 20000 in
theorem gX11_over_X11_anew : GoodIn wsX11_over (wsV RX11 100 RX11 yX11_anew wsX11_anew) := goodIn_app (goodIn_of _ (by decide +kernel)) ggX11_over_X11_anew
theorem dX11_over_0 : decode cX11_over 0 = .ok (.iload_n 1, 1) := by decide +kernel
theorem dX11_over_1 : decode cX11_over 1 = .ok (.iconst 1, 1) := by decide +kernel
theorem dX11_over_2 : decode cX11_over 2 = .ok (.if_icmp .lt 10, 3) := by decide +kernel
theorem dX11_over_5 : decode cX11_over 5 = .ok (.iload_n 1, 1) := by decide +kernel
theorem dX11_over_6 : decode cX11_over 6 = .ok (.sipush 10000, 3) := by decide +kernel
theorem dX11_over_9 : decode cX11_over 9 = .ok (.if_icmp .le 5, 3) := by decide +kernel
theorem dX11_over_12 : decode cX11_over 12 = .ok (.iconst 0, 1) := by decide +kernel
theorem dX11_over_13 : decode cX11_over 13 = .ok (.ireturn, 1) := by decide +kernel
theorem dX11_over_14 : decode cX11_over 14 = .ok (.aload_n 0, 1) := by decide +kernel
theorem dX11_over_15 : decode cX11_over 15 = .ok (.iload_n 1, 1) := by decide +kernel
theorem dX11_over_16 : decode cX11_over 16 = .ok (.putfield 7, 3) := by decide +kernel
theorem dX11_over_19 : decode cX11_over 19 = .ok (.aload_n 0, 1) := by decide +kernel
theorem dX11_over_20 : decode cX11_over 20 = .ok (.invokevirtual 100, 3) := by decide +kernel
theorem dX11_over_23 : decode cX11_over 23 = .ok (.iconst 1, 1) := by decide +kernel
theorem dX11_over_24 : decode cX11_over 24 = .ok (.ireturn, 1) := by decide +kernel
set_option maxRecDepth 20000 in
theorem ggX11_steps_X11_anew : GoodIn wsX11_steps wsX11_anew := goodIn_r _ [8, 9, 10, 11, 12, 13, 14, 15, 16, 17, 18, 19, 20, 21, 22, 23, 24, 25, 26, 27, 28, 29, 30, 31, 32, 33, 34, 35, 36, 37, 38, 39, 40, 41, 42, 43, 44, 45, 46, 47, 48, 49, 50, 51, 52] (by decide +kernel) (by decide +kernel)
set_option maxRecDepth 20000 in
theorem gX11_steps_X11_anew : GoodIn wsX11_steps (wsV RX11 100 RX11 yX11_anew wsX11_anew) := goodIn_app (goodIn_of _ (by decide +kernel)) ggX11_steps_X11_anew
theorem dX11_steps_0 : decode cX11_steps 0 = .ok (.iload_n 1, 1) := by decide +kernel
theorem dX11_steps_1 : decode cX11_steps 1 = .ok (.iconst 2, 1) := by decide +kernel
theorem dX11_steps_2 : decode cX11_steps 2 = .ok (.if_icmp .lt 9, 3) := by decide +kernel
theorem dX11_steps_5 : decode cX11_steps 5 = .ok (.iload_n 1, 1) := by decide +kernel
theorem dX11_steps_6 : decode cX11_steps 6 = .ok (.bipush 8, 2) := by decide +kernel
theorem dX11_steps_8 : decode cX11_steps 8 = .ok (.if_icmp .le 5, 3) := by decide +kernel
theorem dX11_steps_11 : decode cX11_steps 11 = .ok (.iconst 0, 1) := by decide +kernel
theorem dX11_steps_12 : decode cX11_steps 12 = .ok (.ireturn, 1) := by decide +kernel
theorem dX11_steps_13 : decode cX11_steps 13 = .ok (.aload_n 0, 1) := by decide +kernel
theorem dX11_steps_14 : decode cX11_steps 14 = .ok (.getfield 23, 3) := by decide +kernel
theorem dX11_steps_17 : decode cX11_steps 17 = .ok (.astore 10, 2) := by decide +kernel
theorem dX11_steps_19 : decode cX11_steps 19 = .ok (.aload 10, 2) := by decide +kernel
theorem dX11_steps_21 : decode cX11_steps 21 = .ok (.iconst 0, 1) := by decide +kernel
theorem dX11_steps_22 : decode cX11_steps 22 = .ok (.iload_n 2, 1) := by decide +kernel
theorem dX11_steps_23 : decode cX11_steps 23 = .ok (.iastore, 1) := by decide +kernel
theorem dX11_steps_24 : decode cX11_steps 24 = .ok (.aload 10, 2) := by decide +kernel
theorem dX11_steps_26 : decode cX11_steps 26 = .ok (.iconst 1, 1) := by decide +kernel
theorem dX11_steps_27 : decode cX11_steps 27 = .ok (.iload_n 3, 1) := by decide +kernel
theorem dX11_steps_28 : decode cX11_steps 28 = .ok (.iastore, 1) := by decide +kernel
theorem dX11_steps_29 : decode cX11_steps 29 = .ok (.aload 10, 2) := by decide +kernel
theorem dX11_steps_31 : decode cX11_steps 31 = .ok (.iconst 2, 1) := by decide +kernel
theorem dX11_steps_32 : decode cX11_steps 32 = .ok (.iload 4, 2) := by decide +kernel
theorem dX11_steps_34 : decode cX11_steps 34 = .ok (.iastore, 1) := by decide +kernel
theorem dX11_steps_35 : decode cX11_steps 35 = .ok (.aload 10, 2) := by decide +kernel
theorem dX11_steps_37 : decode cX11_steps 37 = .ok (.iconst 3, 1) := by decide +kernel
theorem dX11_steps_38 : decode cX11_steps 38 = .ok (.iload 5, 2) := by decide +kernel
theorem dX11_steps_40 : decode cX11_steps 40 = .ok (.iastore, 1) := by decide +kernel
theorem dX11_steps_41 : decode cX11_steps 41 = .ok (.aload 10, 2) := by decide +kernel
theorem dX11_steps_43 : decode cX11_steps 43 = .ok (.iconst 4, 1) := by decide +kernel
theorem dX11_steps_44 : decode cX11_steps 44 = .ok (.iload 6, 2) := by decide +kernel
theorem dX11_steps_46 : decode cX11_steps 46 = .ok (.iastore, 1) := by decide +kernel
theorem dX11_steps_47 : decode cX11_steps 47 = .ok (.aload 10, 2) := by decide +kernel
theorem dX11_steps_49 : decode cX11_steps 49 = .ok (.iconst 5, 1) := by decide +kernel
theorem dX11_steps_50 : decode cX11_steps 50 = .ok (.iload 7, 2) := by decide +kernel
theorem dX11_steps_52 : decode cX11_steps 52 = .ok (.iastore, 1) := by decide +kernel
theorem dX11_steps_53 : decode cX11_steps 53 = .ok (.aload 10, 2) := by decide +kernel
theorem dX11_steps_55 : decode cX11_steps 55 = .ok (.bipush 6, 2) := by decide +kernel
theorem dX11_steps_57 : decode cX11_steps 57 = .ok (.iload 8, 2) := by decide +kernel
theorem dX11_steps_59 : decode cX11_steps 59 = .ok (.iastore, 1) := by decide +kernel
theorem dX11_steps_60 : decode cX11_steps 60 = .ok (.aload 10, 2) := by decide +kernel
theorem dX11_steps_62 : decode cX11_steps 62 = .ok (.bipush 7, 2) := by decide +kernel
theorem dX11_steps_64 : decode cX11_steps 64 = .ok (.iload 9, 2) := by decide +kernel
theorem dX11_steps_66 : decode cX11_steps 66 = .ok (.iastore, 1) := by decide +kernel
theorem dX11_steps_67 : decode cX11_steps 67 = .ok (.iconst 1, 1) := by decide +kernel
theorem dX11_steps_68 : decode cX11_steps 68 = .ok (.istore 11, 2) := by decide +kernel
theorem dX11_steps_70 : decode cX11_steps 70 = .ok (.iconst 0, 1) := by decide +kernel
theorem dX11_steps_71 : decode cX11_steps 71 = .ok (.istore 12, 2) := by decide +kernel
theorem dX11_steps_73 : decode cX11_steps 73 = .ok (.iload 12, 2) := by decide +kernel
theorem dX11_steps_75 : decode cX11_steps 75 = .ok (.iload_n 1, 1) := by decide +kernel
theorem dX11_steps_76 : decode cX11_steps 76 = .ok (.if_icmp .ge 61, 3) := by decide +kernel
theorem dX11_steps_79 : decode cX11_steps 79 = .ok (.iload 11, 2) := by decide +kernel
theorem dX11_steps_81 : decode cX11_steps 81 = .ok (.ifCond .eq 56, 3) := by decide +kernel
theorem dX11_steps_84 : decode cX11_steps 84 = .ok (.aload 10, 2) := by decide +kernel
theorem dX11_steps_86 : decode cX11_steps 86 = .ok (.iload 12, 2) := by decide +kernel
theorem dX11_steps_88 : decode cX11_steps 88 = .ok (.iaload, 1) := by decide +kernel
theorem dX11_steps_89 : decode cX11_steps 89 = .ok (.bipush (-100), 2) := by decide +kernel
theorem dX11_steps_91 : decode cX11_steps 91 = .ok (.if_icmp .lt 37, 3) := by decide +kernel
theorem dX11_steps_94 : decode cX11_steps 94 = .ok (.aload 10, 2) := by decide +kernel
theorem dX11_steps_96 : decode cX11_steps 96 = .ok (.iload 12, 2) := by decide +kernel
theorem dX11_steps_98 : decode cX11_steps 98 = .ok (.iaload, 1) := by decide +kernel
theorem dX11_steps_99 : decode cX11_steps 99 = .ok (.bipush 100, 2) := by decide +kernel
theorem dX11_steps_101 : decode cX11_steps 101 = .ok (.if_icmp .gt 27, 3) := by decide +kernel
theorem dX11_steps_104 : decode cX11_steps 104 = .ok (.iload 12, 2) := by decide +kernel
theorem dX11_steps_106 : decode cX11_steps 106 = .ok (.ifCond .eq 18, 3) := by decide +kernel
theorem dX11_steps_109 : decode cX11_steps 109 = .ok (.aload 10, 2) := by decide +kernel
theorem dX11_steps_111 : decode cX11_steps 111 = .ok (.iload 12, 2) := by decide +kernel
theorem dX11_steps_113 : decode cX11_steps 113 = .ok (.iconst 1, 1) := by decide +kernel
theorem dX11_steps_114 : decode cX11_steps 114 = .ok (.isub, 1) := by decide +kernel
theorem dX11_steps_115 : decode cX11_steps 115 = .ok (.iaload, 1) := by decide +kernel
theorem dX11_steps_116 : decode cX11_steps 116 = .ok (.aload 10, 2) := by decide +kernel
theorem dX11_steps_118 : decode cX11_steps 118 = .ok (.iload 12, 2) := by decide +kernel
theorem dX11_steps_120 : decode cX11_steps 120 = .ok (.iaload, 1) := by decide +kernel
theorem dX11_steps_121 : decode cX11_steps 121 = .ok (.if_icmp .ge 7, 3) := by decide +kernel
theorem dX11_steps_124 : decode cX11_steps 124 = .ok (.iconst 1, 1) := by decide +kernel
theorem dX11_steps_125 : decode cX11_steps 125 = .ok (.goto 4, 3) := by decide +kernel
theorem dX11_steps_128 : decode cX11_steps 128 = .ok (.iconst 0, 1) := by decide +kernel
theorem dX11_steps_129 : decode cX11_steps 129 = .ok (.istore 11, 2) := by decide +kernel
theorem dX11_steps_131 : decode cX11_steps 131 = .ok (.iinc 12 1, 3) := by decide +kernel
theorem dX11_steps_134 : decode cX11_steps 134 = .ok (.goto (-61), 3) := by decide +kernel
theorem dX11_steps_137 : decode cX11_steps 137 = .ok (.iload 11, 2) := by decide +kernel
theorem dX11_steps_139 : decode cX11_steps 139 = .ok (.ifCond .ne 5, 3) := by decide +kernel
theorem dX11_steps_142 : decode cX11_steps 142 = .ok (.iconst 0, 1) := by decide +kernel
theorem dX11_steps_143 : decode cX11_steps 143 = .ok (.ireturn, 1) := by decide +kernel
theorem dX11_steps_144 : decode cX11_steps 144 = .ok (.iconst 0, 1) := by decide +kernel
theorem dX11_steps_145 : decode cX11_steps 145 = .ok (.istore 12, 2) := by decide +kernel
theorem dX11_steps_147 : decode cX11_steps 147 = .ok (.iload 12, 2) := by decide +kernel
theorem dX11_steps_149 : decode cX11_steps 149 = .ok (.iload_n 1, 1) := by decide +kernel
theorem dX11_steps_150 : decode cX11_steps 150 = .ok (.if_icmp .ge 21, 3) := by decide +kernel
theorem dX11_steps_153 : decode cX11_steps 153 = .ok (.aload_n 0, 1) := by decide +kernel
theorem dX11_steps_154 : decode cX11_steps 154 = .ok (.getfield 19, 3) := by decide +kernel
theorem dX11_steps_157 : decode cX11_steps 157 = .ok (.iload 12, 2) := by decide +kernel
theorem dX11_steps_159 : decode cX11_steps 159 = .ok (.aload 10, 2) := by decide +kernel
theorem dX11_steps_161 : decode cX11_steps 161 = .ok (.iload 12, 2) := by decide +kernel
theorem dX11_steps_163 : decode cX11_steps 163 = .ok (.iaload, 1) := by decide +kernel
theorem dX11_steps_164 : decode cX11_steps 164 = .ok (.iastore, 1) := by decide +kernel
theorem dX11_steps_165 : decode cX11_steps 165 = .ok (.iinc 12 1, 3) := by decide +kernel
theorem dX11_steps_168 : decode cX11_steps 168 = .ok (.goto (-21), 3) := by decide +kernel
theorem dX11_steps_171 : decode cX11_steps 171 = .ok (.aload_n 0, 1) := by decide +kernel
theorem dX11_steps_172 : decode cX11_steps 172 = .ok (.iload_n 1, 1) := by decide +kernel
theorem dX11_steps_173 : decode cX11_steps 173 = .ok (.putfield 13, 3) := by decide +kernel
theorem dX11_steps_176 : decode cX11_steps 176 = .ok (.aload_n 0, 1) := by decide +kernel
theorem dX11_steps_177 : decode cX11_steps 177 = .ok (.invokevirtual 100, 3) := by decide +kernel
theorem dX11_steps_180 : decode cX11_steps 180 = .ok (.iconst 1, 1) := by decide +kernel
theorem dX11_steps_181 : decode cX11_steps 181 = .ok (.ireturn, 1) := by decide +kernel
set_option maxRecDepth 20000 in
theorem ggX11_loop_X11_anew : GoodIn wsX11_loop wsX11_anew := goodIn_r _ [16, 17, 18, 19, 20, 21, 22, 23, 24, 25, 26, 27, 28, 29, 30, 31, 32, 33, 34, 35, 36, 37, 38, 39, 40, 41, 42, 43, 44, 45, 46, 47, 48, 49, 50, 51, 52, 53, 54, 55, 56, 57, 58, 59, 60] (by decide +kernel) (by decide +kernel)
set_option maxRecDepth 20000 in
theorem gX11_loop_X11_anew : GoodIn wsX11_loop (wsV RX11 100 RX11 yX11_anew wsX11_anew) := goodIn_app (goodIn_of _ (by decide +kernel)) ggX11_loop_X11_anew
theorem dX11_loop_0 : decode cX11_loop 0 = .ok (.iload_n 1, 1) := by decide +kernel
theorem dX11_loop_1 : decode cX11_loop 1 = .ok (.ifCond .lt 33, 3) := by decide +kernel
theorem dX11_loop_4 : decode cX11_loop 4 = .ok (.iload_n 1, 1) := by decide +kernel
theorem dX11_loop_5 : decode cX11_loop 5 = .ok (.iconst 4, 1) := by decide +kernel
theorem dX11_loop_6 : decode cX11_loop 6 = .ok (.if_icmp .gt 28, 3) := by decide +kernel
theorem dX11_loop_9 : decode cX11_loop 9 = .ok (.iload_n 1, 1) := by decide +kernel
theorem dX11_loop_10 : decode cX11_loop 10 = .ok (.iconst 4, 1) := by decide +kernel
theorem dX11_loop_11 : decode cX11_loop 11 = .ok (.if_icmp .ne 15, 3) := by decide +kernel
theorem dX11_loop_14 : decode cX11_loop 14 = .ok (.iload_n 3, 1) := by decide +kernel
theorem dX11_loop_15 : decode cX11_loop 15 = .ok (.ifCond .eq 15, 3) := by decide +kernel
theorem dX11_loop_18 : decode cX11_loop 18 = .ok (.iload_n 3, 1) := by decide +kernel
theorem dX11_loop_19 : decode cX11_loop 19 = .ok (.iconst 1, 1) := by decide +kernel
theorem dX11_loop_20 : decode cX11_loop 20 = .ok (.if_icmp .ne 14, 3) := by decide +kernel
theorem dX11_loop_23 : decode cX11_loop 23 = .ok (.goto 7, 3) := by decide +kernel
theorem dX11_loop_26 : decode cX11_loop 26 = .ok (.iload_n 3, 1) := by decide +kernel
theorem dX11_loop_27 : decode cX11_loop 27 = .ok (.ifCond .ne 7, 3) := by decide +kernel
theorem dX11_loop_30 : decode cX11_loop 30 = .ok (.iconst 1, 1) := by decide +kernel
theorem dX11_loop_31 : decode cX11_loop 31 = .ok (.goto 4, 3) := by decide +kernel
theorem dX11_loop_34 : decode cX11_loop 34 = .ok (.iconst 0, 1) := by decide +kernel
theorem dX11_loop_35 : decode cX11_loop 35 = .ok (.istore 4, 2) := by decide +kernel
theorem dX11_loop_37 : decode cX11_loop 37 = .ok (.iload_n 1, 1) := by decide +kernel
theorem dX11_loop_38 : decode cX11_loop 38 = .ok (.iconst 2, 1) := by decide +kernel
theorem dX11_loop_39 : decode cX11_loop 39 = .ok (.if_icmp .ne 28, 3) := by decide +kernel
theorem dX11_loop_42 : decode cX11_loop 42 = .ok (.iload 4, 2) := by decide +kernel
theorem dX11_loop_44 : decode cX11_loop 44 = .ok (.ifCond .eq 17, 3) := by decide +kernel
theorem dX11_loop_47 : decode cX11_loop 47 = .ok (.iload_n 2, 1) := by decide +kernel
theorem dX11_loop_48 : decode cX11_loop 48 = .ok (.iconst 1, 1) := by decide +kernel
theorem dX11_loop_49 : decode cX11_loop 49 = .ok (.if_icmp .lt 12, 3) := by decide +kernel
theorem dX11_loop_52 : decode cX11_loop 52 = .ok (.iload_n 2, 1) := by decide +kernel
theorem dX11_loop_53 : decode cX11_loop 53 = .ok (.iconst 4, 1) := by decide +kernel
theorem dX11_loop_54 : decode cX11_loop 54 = .ok (.if_icmp .gt 7, 3) := by decide +kernel
theorem dX11_loop_57 : decode cX11_loop 57 = .ok (.iconst 1, 1) := by decide +kernel
theorem dX11_loop_58 : decode cX11_loop 58 = .ok (.goto 4, 3) := by decide +kernel
theorem dX11_loop_61 : decode cX11_loop 61 = .ok (.iconst 0, 1) := by decide +kernel
theorem dX11_loop_62 : decode cX11_loop 62 = .ok (.istore 4, 2) := by decide +kernel
theorem dX11_loop_64 : decode cX11_loop 64 = .ok (.goto 80, 3) := by decide +kernel
theorem dX11_loop_67 : decode cX11_loop 67 = .ok (.iload_n 1, 1) := by decide +kernel
theorem dX11_loop_68 : decode cX11_loop 68 = .ok (.iconst 3, 1) := by decide +kernel
theorem dX11_loop_69 : decode cX11_loop 69 = .ok (.if_icmp .ne 28, 3) := by decide +kernel
theorem dX11_loop_72 : decode cX11_loop 72 = .ok (.iload 4, 2) := by decide +kernel
theorem dX11_loop_74 : decode cX11_loop 74 = .ok (.ifCond .eq 17, 3) := by decide +kernel
theorem dX11_loop_77 : decode cX11_loop 77 = .ok (.iload_n 2, 1) := by decide +kernel
theorem dX11_loop_78 : decode cX11_loop 78 = .ok (.iconst 2, 1) := by decide +kernel
theorem dX11_loop_79 : decode cX11_loop 79 = .ok (.if_icmp .eq 8, 3) := by decide +kernel
theorem dX11_loop_82 : decode cX11_loop 82 = .ok (.iload_n 2, 1) := by decide +kernel
theorem dX11_loop_83 : decode cX11_loop 83 = .ok (.iconst 3, 1) := by decide +kernel
theorem dX11_loop_84 : decode cX11_loop 84 = .ok (.if_icmp .ne 7, 3) := by decide +kernel
theorem dX11_loop_87 : decode cX11_loop 87 = .ok (.iconst 1, 1) := by decide +kernel
theorem dX11_loop_88 : decode cX11_loop 88 = .ok (.goto 4, 3) := by decide +kernel
theorem dX11_loop_91 : decode cX11_loop 91 = .ok (.iconst 0, 1) := by decide +kernel
theorem dX11_loop_92 : decode cX11_loop 92 = .ok (.istore 4, 2) := by decide +kernel
theorem dX11_loop_94 : decode cX11_loop 94 = .ok (.goto 50, 3) := by decide +kernel
theorem dX11_loop_97 : decode cX11_loop 97 = .ok (.iload_n 1, 1) := by decide +kernel
theorem dX11_loop_98 : decode cX11_loop 98 = .ok (.iconst 4, 1) := by decide +kernel
theorem dX11_loop_99 : decode cX11_loop 99 = .ok (.if_icmp .ne 29, 3) := by decide +kernel
theorem dX11_loop_102 : decode cX11_loop 102 = .ok (.iload 4, 2) := by decide +kernel
theorem dX11_loop_104 : decode cX11_loop 104 = .ok (.ifCond .eq 18, 3) := by decide +kernel
theorem dX11_loop_107 : decode cX11_loop 107 = .ok (.iload_n 2, 1) := by decide +kernel
theorem dX11_loop_108 : decode cX11_loop 108 = .ok (.iconst 2, 1) := by decide +kernel
theorem dX11_loop_109 : decode cX11_loop 109 = .ok (.if_icmp .lt 13, 3) := by decide +kernel
theorem dX11_loop_112 : decode cX11_loop 112 = .ok (.iload_n 2, 1) := by decide +kernel
theorem dX11_loop_113 : decode cX11_loop 113 = .ok (.bipush 16, 2) := by decide +kernel
theorem dX11_loop_115 : decode cX11_loop 115 = .ok (.if_icmp .gt 7, 3) := by decide +kernel
theorem dX11_loop_118 : decode cX11_loop 118 = .ok (.iconst 1, 1) := by decide +kernel
theorem dX11_loop_119 : decode cX11_loop 119 = .ok (.goto 4, 3) := by decide +kernel
theorem dX11_loop_122 : decode cX11_loop 122 = .ok (.iconst 0, 1) := by decide +kernel
theorem dX11_loop_123 : decode cX11_loop 123 = .ok (.istore 4, 2) := by decide +kernel
theorem dX11_loop_125 : decode cX11_loop 125 = .ok (.goto 19, 3) := by decide +kernel
theorem dX11_loop_128 : decode cX11_loop 128 = .ok (.iload 4, 2) := by decide +kernel
theorem dX11_loop_130 : decode cX11_loop 130 = .ok (.ifCond .eq 11, 3) := by decide +kernel
theorem dX11_loop_133 : decode cX11_loop 133 = .ok (.iload_n 2, 1) := by decide +kernel
theorem dX11_loop_134 : decode cX11_loop 134 = .ok (.ifCond .ne 7, 3) := by decide +kernel
theorem dX11_loop_137 : decode cX11_loop 137 = .ok (.iconst 1, 1) := by decide +kernel
theorem dX11_loop_138 : decode cX11_loop 138 = .ok (.goto 4, 3) := by decide +kernel
theorem dX11_loop_141 : decode cX11_loop 141 = .ok (.iconst 0, 1) := by decide +kernel
theorem dX11_loop_142 : decode cX11_loop 142 = .ok (.istore 4, 2) := by decide +kernel
theorem dX11_loop_144 : decode cX11_loop 144 = .ok (.iload 4, 2) := by decide +kernel
theorem dX11_loop_146 : decode cX11_loop 146 = .ok (.ifCond .ne 5, 3) := by decide +kernel
theorem dX11_loop_149 : decode cX11_loop 149 = .ok (.iconst 0, 1) := by decide +kernel
theorem dX11_loop_150 : decode cX11_loop 150 = .ok (.ireturn, 1) := by decide +kernel
theorem dX11_loop_151 : decode cX11_loop 151 = .ok (.iload_n 1, 1) := by decide +kernel
theorem dX11_loop_152 : decode cX11_loop 152 = .ok (.iconst 2, 1) := by decide +kernel
theorem dX11_loop_153 : decode cX11_loop 153 = .ok (.if_icmp .eq 8, 3) := by decide +kernel
theorem dX11_loop_156 : decode cX11_loop 156 = .ok (.iload_n 1, 1) := by decide +kernel
theorem dX11_loop_157 : decode cX11_loop 157 = .ok (.iconst 3, 1) := by decide +kernel
theorem dX11_loop_158 : decode cX11_loop 158 = .ok (.if_icmp .ne 7, 3) := by decide +kernel
theorem dX11_loop_161 : decode cX11_loop 161 = .ok (.iload_n 2, 1) := by decide +kernel
theorem dX11_loop_162 : decode cX11_loop 162 = .ok (.goto 13, 3) := by decide +kernel
theorem dX11_loop_165 : decode cX11_loop 165 = .ok (.iload_n 1, 1) := by decide +kernel
theorem dX11_loop_166 : decode cX11_loop 166 = .ok (.iconst 1, 1) := by decide +kernel
theorem dX11_loop_167 : decode cX11_loop 167 = .ok (.if_icmp .ne 7, 3) := by decide +kernel
theorem dX11_loop_170 : decode cX11_loop 170 = .ok (.iconst 2, 1) := by decide +kernel
theorem dX11_loop_171 : decode cX11_loop 171 = .ok (.goto 4, 3) := by decide +kernel
theorem dX11_loop_174 : decode cX11_loop 174 = .ok (.iconst 1, 1) := by decide +kernel
theorem dX11_loop_175 : decode cX11_loop 175 = .ok (.istore 5, 2) := by decide +kernel
theorem dX11_loop_177 : decode cX11_loop 177 = .ok (.iload 5, 2) := by decide +kernel
theorem dX11_loop_179 : decode cX11_loop 179 = .ok (.aload_n 0, 1) := by decide +kernel
theorem dX11_loop_180 : decode cX11_loop 180 = .ok (.getfield 16, 3) := by decide +kernel
theorem dX11_loop_183 : decode cX11_loop 183 = .ok (.if_icmp .eq 34, 3) := by decide +kernel
theorem dX11_loop_186 : decode cX11_loop 186 = .ok (.iconst 0, 1) := by decide +kernel
theorem dX11_loop_187 : decode cX11_loop 187 = .ok (.istore 6, 2) := by decide +kernel
theorem dX11_loop_189 : decode cX11_loop 189 = .ok (.iload 6, 2) := by decide +kernel
theorem dX11_loop_191 : decode cX11_loop 191 = .ok (.iconst 4, 1) := by decide +kernel
theorem dX11_loop_192 : decode cX11_loop 192 = .ok (.if_icmp .ge 25, 3) := by decide +kernel
theorem dX11_loop_195 : decode cX11_loop 195 = .ok (.aload_n 0, 1) := by decide +kernel
theorem dX11_loop_196 : decode cX11_loop 196 = .ok (.getfield 42, 3) := by decide +kernel
theorem dX11_loop_199 : decode cX11_loop 199 = .ok (.iload 6, 2) := by decide +kernel
theorem dX11_loop_201 : decode cX11_loop 201 = .ok (.lconst 0, 1) := by decide +kernel
theorem dX11_loop_202 : decode cX11_loop 202 = .ok (.lastore, 1) := by decide +kernel
theorem dX11_loop_203 : decode cX11_loop 203 = .ok (.aload_n 0, 1) := by decide +kernel
theorem dX11_loop_204 : decode cX11_loop 204 = .ok (.getfield 45, 3) := by decide +kernel
theorem dX11_loop_207 : decode cX11_loop 207 = .ok (.iload 6, 2) := by decide +kernel
theorem dX11_loop_209 : decode cX11_loop 209 = .ok (.lconst 0, 1) := by decide +kernel
theorem dX11_loop_210 : decode cX11_loop 210 = .ok (.lastore, 1) := by decide +kernel
theorem dX11_loop_211 : decode cX11_loop 211 = .ok (.iinc 6 1, 3) := by decide +kernel
theorem dX11_loop_214 : decode cX11_loop 214 = .ok (.goto (-25), 3) := by decide +kernel
theorem dX11_loop_217 : decode cX11_loop 217 = .ok (.aload_n 0, 1) := by decide +kernel
theorem dX11_loop_218 : decode cX11_loop 218 = .ok (.iload_n 1, 1) := by decide +kernel
theorem dX11_loop_219 : decode cX11_loop 219 = .ok (.putfield 103, 3) := by decide +kernel
theorem dX11_loop_222 : decode cX11_loop 222 = .ok (.aload_n 0, 1) := by decide +kernel
theorem dX11_loop_223 : decode cX11_loop 223 = .ok (.iload_n 3, 1) := by decide +kernel
theorem dX11_loop_224 : decode cX11_loop 224 = .ok (.putfield 106, 3) := by decide +kernel
theorem dX11_loop_227 : decode cX11_loop 227 = .ok (.aload_n 0, 1) := by decide +kernel
theorem dX11_loop_228 : decode cX11_loop 228 = .ok (.iload 5, 2) := by decide +kernel
theorem dX11_loop_230 : decode cX11_loop 230 = .ok (.putfield 16, 3) := by decide +kernel
theorem dX11_loop_233 : decode cX11_loop 233 = .ok (.aload_n 0, 1) := by decide +kernel
theorem dX11_loop_234 : decode cX11_loop 234 = .ok (.iload_n 1, 1) := by decide +kernel
theorem dX11_loop_235 : decode cX11_loop 235 = .ok (.iconst 4, 1) := by decide +kernel
theorem dX11_loop_236 : decode cX11_loop 236 = .ok (.if_icmp .ne 7, 3) := by decide +kernel
theorem dX11_loop_239 : decode cX11_loop 239 = .ok (.iload_n 2, 1) := by decide +kernel
theorem dX11_loop_240 : decode cX11_loop 240 = .ok (.goto 4, 3) := by decide +kernel
theorem dX11_loop_243 : decode cX11_loop 243 = .ok (.iconst 0, 1) := by decide +kernel
theorem dX11_loop_244 : decode cX11_loop 244 = .ok (.putfield 109, 3) := by decide +kernel
theorem dX11_loop_247 : decode cX11_loop 247 = .ok (.iconst 0, 1) := by decide +kernel
theorem dX11_loop_248 : decode cX11_loop 248 = .ok (.istore 6, 2) := by decide +kernel
theorem dX11_loop_250 : decode cX11_loop 250 = .ok (.iload 6, 2) := by decide +kernel
theorem dX11_loop_252 : decode cX11_loop 252 = .ok (.bipush 16, 2) := by decide +kernel
theorem dX11_loop_254 : decode cX11_loop 254 = .ok (.if_icmp .ge 17, 3) := by decide +kernel
theorem dX11_loop_257 : decode cX11_loop 257 = .ok (.aload_n 0, 1) := by decide +kernel
theorem dX11_loop_258 : decode cX11_loop 258 = .ok (.getfield 26, 3) := by decide +kernel
theorem dX11_loop_261 : decode cX11_loop 261 = .ok (.iload 6, 2) := by decide +kernel
theorem dX11_loop_263 : decode cX11_loop 263 = .ok (.iconst 0, 1) := by decide +kernel
theorem dX11_loop_264 : decode cX11_loop 264 = .ok (.iastore, 1) := by decide +kernel
theorem dX11_loop_265 : decode cX11_loop 265 = .ok (.iinc 6 1, 3) := by decide +kernel
theorem dX11_loop_268 : decode cX11_loop 268 = .ok (.goto (-18), 3) := by decide +kernel
theorem dX11_loop_271 : decode cX11_loop 271 = .ok (.iconst 0, 1) := by decide +kernel
theorem dX11_loop_272 : decode cX11_loop 272 = .ok (.istore 6, 2) := by decide +kernel
theorem dX11_loop_274 : decode cX11_loop 274 = .ok (.iload 6, 2) := by decide +kernel
theorem dX11_loop_276 : decode cX11_loop 276 = .ok (.iconst 4, 1) := by decide +kernel
theorem dX11_loop_277 : decode cX11_loop 277 = .ok (.if_icmp .ge 33, 3) := by decide +kernel
theorem dX11_loop_280 : decode cX11_loop 280 = .ok (.aload_n 0, 1) := by decide +kernel
theorem dX11_loop_281 : decode cX11_loop 281 = .ok (.getfield 29, 3) := by decide +kernel
theorem dX11_loop_284 : decode cX11_loop 284 = .ok (.iload 6, 2) := by decide +kernel
theorem dX11_loop_286 : decode cX11_loop 286 = .ok (.iconst 0, 1) := by decide +kernel
theorem dX11_loop_287 : decode cX11_loop 287 = .ok (.iastore, 1) := by decide +kernel
theorem dX11_loop_288 : decode cX11_loop 288 = .ok (.aload_n 0, 1) := by decide +kernel
theorem dX11_loop_289 : decode cX11_loop 289 = .ok (.getfield 32, 3) := by decide +kernel
theorem dX11_loop_292 : decode cX11_loop 292 = .ok (.iload 6, 2) := by decide +kernel
theorem dX11_loop_294 : decode cX11_loop 294 = .ok (.iconst 0, 1) := by decide +kernel
theorem dX11_loop_295 : decode cX11_loop 295 = .ok (.iastore, 1) := by decide +kernel
theorem dX11_loop_296 : decode cX11_loop 296 = .ok (.aload_n 0, 1) := by decide +kernel
theorem dX11_loop_297 : decode cX11_loop 297 = .ok (.getfield 35, 3) := by decide +kernel
theorem dX11_loop_300 : decode cX11_loop 300 = .ok (.iload 6, 2) := by decide +kernel
theorem dX11_loop_302 : decode cX11_loop 302 = .ok (.iconst 0, 1) := by decide +kernel
theorem dX11_loop_303 : decode cX11_loop 303 = .ok (.iastore, 1) := by decide +kernel
theorem dX11_loop_304 : decode cX11_loop 304 = .ok (.iinc 6 1, 3) := by decide +kernel
theorem dX11_loop_307 : decode cX11_loop 307 = .ok (.goto (-33), 3) := by decide +kernel
theorem dX11_loop_310 : decode cX11_loop 310 = .ok (.aload_n 0, 1) := by decide +kernel
theorem dX11_loop_311 : decode cX11_loop 311 = .ok (.iconst 0, 1) := by decide +kernel
theorem dX11_loop_312 : decode cX11_loop 312 = .ok (.putfield 112, 3) := by decide +kernel
theorem dX11_loop_315 : decode cX11_loop 315 = .ok (.aload_n 0, 1) := by decide +kernel
theorem dX11_loop_316 : decode cX11_loop 316 = .ok (.invokevirtual 100, 3) := by decide +kernel
theorem dX11_loop_319 : decode cX11_loop 319 = .ok (.iconst 1, 1) := by decide +kernel
theorem dX11_loop_320 : decode cX11_loop 320 = .ok (.ireturn, 1) := by decide +kernel
set_option maxRecDepth 20000 in
theorem ggX11_table_X11_anew : GoodIn wsX11_table wsX11_anew := goodIn_r _ [12, 13, 14, 15, 16, 17, 18, 19, 20, 21, 22, 23, 24, 25, 26, 27, 28, 29, 30, 31, 32, 33, 34, 35, 36, 37, 38, 39, 40, 41, 42, 43, 44, 45, 46, 47, 48, 49, 50, 51, 52, 53, 54, 55, 56] (by decide +kernel) (by decide +kernel)
set_option maxRecDepth 20000 in
theorem gX11_table_X11_anew : GoodIn wsX11_table (wsV RX11 100 RX11 yX11_anew wsX11_anew) := goodIn_app (goodIn_of _ (by decide +kernel)) ggX11_table_X11_anew
theorem dX11_table_0 : decode cX11_table 0 = .ok (.aload_n 0, 1) := by decide +kernel
theorem dX11_table_1 : decode cX11_table 1 = .ok (.getfield 103, 3) := by decide +kernel
theorem dX11_table_4 : decode cX11_table 4 = .ok (.iconst 2, 1) := by decide +kernel
theorem dX11_table_5 : decode cX11_table 5 = .ok (.if_icmp .ne 15, 3) := by decide +kernel
theorem dX11_table_8 : decode cX11_table 8 = .ok (.iload_n 3, 1) := by decide +kernel
theorem dX11_table_9 : decode cX11_table 9 = .ok (.bipush (-10), 2) := by decide +kernel
theorem dX11_table_11 : decode cX11_table 11 = .ok (.if_icmp .lt 9, 3) := by decide +kernel
theorem dX11_table_14 : decode cX11_table 14 = .ok (.iload_n 3, 1) := by decide +kernel
theorem dX11_table_15 : decode cX11_table 15 = .ok (.bipush 10, 2) := by decide +kernel
theorem dX11_table_17 : decode cX11_table 17 = .ok (.if_icmp .le 5, 3) := by decide +kernel
theorem dX11_table_20 : decode cX11_table 20 = .ok (.iconst 0, 1) := by decide +kernel
theorem dX11_table_21 : decode cX11_table 21 = .ok (.ireturn, 1) := by decide +kernel
theorem dX11_table_22 : decode cX11_table 22 = .ok (.iload_n 1, 1) := by decide +kernel
theorem dX11_table_23 : decode cX11_table 23 = .ok (.ifCond .lt 15, 3) := by decide +kernel
theorem dX11_table_26 : decode cX11_table 26 = .ok (.iload_n 1, 1) := by decide +kernel
theorem dX11_table_27 : decode cX11_table 27 = .ok (.aload_n 0, 1) := by decide +kernel
theorem dX11_table_28 : decode cX11_table 28 = .ok (.getfield 16, 3) := by decide +kernel
theorem dX11_table_31 : decode cX11_table 31 = .ok (.if_icmp .ge 7, 3) := by decide +kernel
theorem dX11_table_34 : decode cX11_table 34 = .ok (.iconst 1, 1) := by decide +kernel
theorem dX11_table_35 : decode cX11_table 35 = .ok (.goto 4, 3) := by decide +kernel
theorem dX11_table_38 : decode cX11_table 38 = .ok (.iconst 0, 1) := by decide +kernel
theorem dX11_table_39 : decode cX11_table 39 = .ok (.istore 4, 2) := by decide +kernel
theorem dX11_table_41 : decode cX11_table 41 = .ok (.iload_n 2, 1) := by decide +kernel
theorem dX11_table_42 : decode cX11_table 42 = .ok (.ifCond .lt 15, 3) := by decide +kernel
theorem dX11_table_45 : decode cX11_table 45 = .ok (.iload_n 2, 1) := by decide +kernel
theorem dX11_table_46 : decode cX11_table 46 = .ok (.aload_n 0, 1) := by decide +kernel
theorem dX11_table_47 : decode cX11_table 47 = .ok (.getfield 16, 3) := by decide +kernel
theorem dX11_table_50 : decode cX11_table 50 = .ok (.if_icmp .ge 7, 3) := by decide +kernel
theorem dX11_table_53 : decode cX11_table 53 = .ok (.iconst 1, 1) := by decide +kernel
theorem dX11_table_54 : decode cX11_table 54 = .ok (.goto 4, 3) := by decide +kernel
theorem dX11_table_57 : decode cX11_table 57 = .ok (.iconst 0, 1) := by decide +kernel
theorem dX11_table_58 : decode cX11_table 58 = .ok (.istore 5, 2) := by decide +kernel
theorem dX11_table_60 : decode cX11_table 60 = .ok (.iload 4, 2) := by decide +kernel
theorem dX11_table_62 : decode cX11_table 62 = .ok (.ifCond .eq 22, 3) := by decide +kernel
theorem dX11_table_65 : decode cX11_table 65 = .ok (.iload 5, 2) := by decide +kernel
theorem dX11_table_67 : decode cX11_table 67 = .ok (.ifCond .eq 17, 3) := by decide +kernel
theorem dX11_table_70 : decode cX11_table 70 = .ok (.aload_n 0, 1) := by decide +kernel
theorem dX11_table_71 : decode cX11_table 71 = .ok (.getfield 26, 3) := by decide +kernel
theorem dX11_table_74 : decode cX11_table 74 = .ok (.iconst 4, 1) := by decide +kernel
theorem dX11_table_75 : decode cX11_table 75 = .ok (.iload_n 1, 1) := by decide +kernel
theorem dX11_table_76 : decode cX11_table 76 = .ok (.imul, 1) := by decide +kernel
theorem dX11_table_77 : decode cX11_table 77 = .ok (.iload_n 2, 1) := by decide +kernel
theorem dX11_table_78 : decode cX11_table 78 = .ok (.iadd, 1) := by decide +kernel
theorem dX11_table_79 : decode cX11_table 79 = .ok (.iload_n 3, 1) := by decide +kernel
theorem dX11_table_80 : decode cX11_table 80 = .ok (.iastore, 1) := by decide +kernel
theorem dX11_table_81 : decode cX11_table 81 = .ok (.goto 83, 3) := by decide +kernel
theorem dX11_table_84 : decode cX11_table 84 = .ok (.iload 4, 2) := by decide +kernel
theorem dX11_table_86 : decode cX11_table 86 = .ok (.ifCond .eq 18, 3) := by decide +kernel
theorem dX11_table_89 : decode cX11_table 89 = .ok (.iload_n 2, 1) := by decide +kernel
theorem dX11_table_90 : decode cX11_table 90 = .ok (.iconst 4, 1) := by decide +kernel
theorem dX11_table_91 : decode cX11_table 91 = .ok (.if_icmp .ne 13, 3) := by decide +kernel
theorem dX11_table_94 : decode cX11_table 94 = .ok (.aload_n 0, 1) := by decide +kernel
theorem dX11_table_95 : decode cX11_table 95 = .ok (.getfield 29, 3) := by decide +kernel
theorem dX11_table_98 : decode cX11_table 98 = .ok (.iload_n 1, 1) := by decide +kernel
theorem dX11_table_99 : decode cX11_table 99 = .ok (.iload_n 3, 1) := by decide +kernel
theorem dX11_table_100 : decode cX11_table 100 = .ok (.iastore, 1) := by decide +kernel
theorem dX11_table_101 : decode cX11_table 101 = .ok (.goto 63, 3) := by decide +kernel
theorem dX11_table_104 : decode cX11_table 104 = .ok (.iload 4, 2) := by decide +kernel
theorem dX11_table_106 : decode cX11_table 106 = .ok (.ifCond .eq 18, 3) := by decide +kernel
theorem dX11_table_109 : decode cX11_table 109 = .ok (.iload_n 2, 1) := by decide +kernel
theorem dX11_table_110 : decode cX11_table 110 = .ok (.iconst 5, 1) := by decide +kernel
theorem dX11_table_111 : decode cX11_table 111 = .ok (.if_icmp .ne 13, 3) := by decide +kernel
theorem dX11_table_114 : decode cX11_table 114 = .ok (.aload_n 0, 1) := by decide +kernel
theorem dX11_table_115 : decode cX11_table 115 = .ok (.getfield 32, 3) := by decide +kernel
theorem dX11_table_118 : decode cX11_table 118 = .ok (.iload_n 1, 1) := by decide +kernel
theorem dX11_table_119 : decode cX11_table 119 = .ok (.iload_n 3, 1) := by decide +kernel
theorem dX11_table_120 : decode cX11_table 120 = .ok (.iastore, 1) := by decide +kernel
theorem dX11_table_121 : decode cX11_table 121 = .ok (.goto 43, 3) := by decide +kernel
theorem dX11_table_124 : decode cX11_table 124 = .ok (.iload_n 1, 1) := by decide +kernel
theorem dX11_table_125 : decode cX11_table 125 = .ok (.iconst 4, 1) := by decide +kernel
theorem dX11_table_126 : decode cX11_table 126 = .ok (.if_icmp .ne 18, 3) := by decide +kernel
theorem dX11_table_129 : decode cX11_table 129 = .ok (.iload 5, 2) := by decide +kernel
theorem dX11_table_131 : decode cX11_table 131 = .ok (.ifCond .eq 13, 3) := by decide +kernel
theorem dX11_table_134 : decode cX11_table 134 = .ok (.aload_n 0, 1) := by decide +kernel
theorem dX11_table_135 : decode cX11_table 135 = .ok (.getfield 35, 3) := by decide +kernel
theorem dX11_table_138 : decode cX11_table 138 = .ok (.iload_n 2, 1) := by decide +kernel
theorem dX11_table_139 : decode cX11_table 139 = .ok (.iload_n 3, 1) := by decide +kernel
theorem dX11_table_140 : decode cX11_table 140 = .ok (.iastore, 1) := by decide +kernel
theorem dX11_table_141 : decode cX11_table 141 = .ok (.goto 23, 3) := by decide +kernel
