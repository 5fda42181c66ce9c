theorem dX3_holds_17 : decode cX3_holds 17 = .ok (.ireturn, 1) := by decide +kernel
theorem dX3_holdsLast_0 : decode cX3_holdsLast 0 = .ok (.iload_n 1, 1) := by decide +kernel
theorem dX3_holdsLast_1 : decode cX3_holdsLast 1 = .ok (.iconst 1, 1) := by decide +kernel
theorem dX3_holdsLast_2 : decode cX3_holdsLast 2 = .ok (.if_icmp .lt 15, 3) := by decide +kernel
theorem dX3_holdsLast_5 : decode cX3_holdsLast 5 = .ok (.iload_n 1, 1) := by decide +kernel
theorem dX3_holdsLast_6 : decode cX3_holdsLast 6 = .ok (.aload_n 0, 1) := by decide +kernel
theorem dX3_holdsLast_7 : decode cX3_holdsLast 7 = .ok (.getfield 29, 3) := by decide +kernel
theorem dX3_holdsLast_10 : decode cX3_holdsLast 10 = .ok (.if_icmp .gt 7, 3) := by decide +kernel
theorem dX3_holdsLast_13 : decode cX3_holdsLast 13 = .ok (.iconst 1, 1) := by decide +kernel
theorem dX3_holdsLast_14 : decode cX3_holdsLast 14 = .ok (.goto 4, 3) := by decide +kernel
theorem dX3_holdsLast_17 : decode cX3_holdsLast 17 = .ok (.iconst 0, 1) := by decide +kernel
theorem dX3_holdsLast_18 : decode cX3_holdsLast 18 = .ok (.ireturn, 1) := by decide +kernel
theorem dX3_wishAt_0 : decode cX3_wishAt 0 = .ok (.aload_n 0, 1) := by decide +kernel
theorem dX3_wishAt_1 : decode cX3_wishAt 1 = .ok (.getfield 9, 3) := by decide +kernel
theorem dX3_wishAt_4 : decode cX3_wishAt 4 = .ok (.aload_n 0, 1) := by decide +kernel
theorem dX3_wishAt_5 : decode cX3_wishAt 5 = .ok (.getfield 25, 3) := by decide +kernel
theorem dX3_wishAt_8 : decode cX3_wishAt 8 = .ok (.iconst 1, 1) := by decide +kernel
theorem dX3_wishAt_9 : decode cX3_wishAt 9 = .ok (.isub, 1) := by decide +kernel
theorem dX3_wishAt_10 : decode cX3_wishAt 10 = .ok (.iload_n 1, 1) := by decide +kernel
theorem dX3_wishAt_11 : decode cX3_wishAt 11 = .ok (.isub, 1) := by decide +kernel
theorem dX3_wishAt_12 : decode cX3_wishAt 12 = .ok (.sipush 255, 3) := by decide +kernel
theorem dX3_wishAt_15 : decode cX3_wishAt 15 = .ok (.iand, 1) := by decide +kernel
theorem dX3_wishAt_16 : decode cX3_wishAt 16 = .ok (.iaload, 1) := by decide +kernel
theorem dX3_wishAt_17 : decode cX3_wishAt 17 = .ok (.ireturn, 1) := by decide +kernel
theorem dX3_givenAt_0 : decode cX3_givenAt 0 = .ok (.aload_n 0, 1) := by decide +kernel
theorem dX3_givenAt_1 : decode cX3_givenAt 1 = .ok (.getfield 15, 3) := by decide +kernel
theorem dX3_givenAt_4 : decode cX3_givenAt 4 = .ok (.aload_n 0, 1) := by decide +kernel
theorem dX3_givenAt_5 : decode cX3_givenAt 5 = .ok (.getfield 25, 3) := by decide +kernel
theorem dX3_givenAt_8 : decode cX3_givenAt 8 = .ok (.iconst 1, 1) := by decide +kernel
theorem dX3_givenAt_9 : decode cX3_givenAt 9 = .ok (.isub, 1) := by decide +kernel
theorem dX3_givenAt_10 : decode cX3_givenAt 10 = .ok (.iload_n 1, 1) := by decide +kernel
theorem dX3_givenAt_11 : decode cX3_givenAt 11 = .ok (.isub, 1) := by decide +kernel
theorem dX3_givenAt_12 : decode cX3_givenAt 12 = .ok (.sipush 255, 3) := by decide +kernel
theorem dX3_givenAt_15 : decode cX3_givenAt 15 = .ok (.iand, 1) := by decide +kernel
theorem dX3_givenAt_16 : decode cX3_givenAt 16 = .ok (.iaload, 1) := by decide +kernel
theorem dX3_givenAt_17 : decode cX3_givenAt 17 = .ok (.ireturn, 1) := by decide +kernel
theorem dX3_sumAt_0 : decode cX3_sumAt 0 = .ok (.aload_n 0, 1) := by decide +kernel
theorem dX3_sumAt_1 : decode cX3_sumAt 1 = .ok (.getfield 18, 3) := by decide +kernel
theorem dX3_sumAt_4 : decode cX3_sumAt 4 = .ok (.aload_n 0, 1) := by decide +kernel
theorem dX3_sumAt_5 : decode cX3_sumAt 5 = .ok (.getfield 25, 3) := by decide +kernel
theorem dX3_sumAt_8 : decode cX3_sumAt 8 = .ok (.iconst 1, 1) := by decide +kernel
theorem dX3_sumAt_9 : decode cX3_sumAt 9 = .ok (.isub, 1) := by decide +kernel
theorem dX3_sumAt_10 : decode cX3_sumAt 10 = .ok (.iload_n 1, 1) := by decide +kernel
theorem dX3_sumAt_11 : decode cX3_sumAt 11 = .ok (.isub, 1) := by decide +kernel
theorem dX3_sumAt_12 : decode cX3_sumAt 12 = .ok (.sipush 255, 3) := by decide +kernel
theorem dX3_sumAt_15 : decode cX3_sumAt 15 = .ok (.iand, 1) := by decide +kernel
theorem dX3_sumAt_16 : decode cX3_sumAt 16 = .ok (.laload, 1) := by decide +kernel
theorem dX3_sumAt_17 : decode cX3_sumAt 17 = .ok (.lreturn, 1) := by decide +kernel
set_option maxRecDepth 20000 in
theorem ggX3_missedIn_X3_givenAt : GoodIn wsX3_missedIn wsX3_givenAt := goodIn_r _ [5, 6, 7, 13, 14, 15, 16, 17, 18] (by decide +kernel) (by decide +kernel)
set_option maxRecDepth 20000 in
theorem gX3_missedIn_X3_givenAt : GoodIn wsX3_missedIn (wsV RX3 38 RX3 yX3_givenAt wsX3_givenAt) := goodIn_app (goodIn_of _ (by decide +kernel)) ggX3_missedIn_X3_givenAt
set_option maxRecDepth 20000 in
theorem ggX3_missedIn_X3_wishAt : GoodIn wsX3_missedIn wsX3_wishAt := goodIn_r _ [11, 12, 7, 13, 14, 15, 16, 17, 18] (by decide +kernel) (by decide +kernel)
set_option maxRecDepth 20000 in
theorem gX3_missedIn_X3_wishAt : GoodIn wsX3_missedIn (wsV RX3 42 RX3 yX3_wishAt wsX3_wishAt) := goodIn_app (goodIn_of _ (by decide +kernel)) ggX3_missedIn_X3_wishAt
theorem dX3_missedIn_0 : decode cX3_missedIn 0 = .ok (.lconst 0, 1) := by decide +kernel
theorem dX3_missedIn_1 : decode cX3_missedIn 1 = .ok (.lstore_n 3, 1) := by decide +kernel
theorem dX3_missedIn_2 : decode cX3_missedIn 2 = .ok (.iconst 0, 1) := by decide +kernel
theorem dX3_missedIn_3 : decode cX3_missedIn 3 = .ok (.istore 5, 2) := by decide +kernel
theorem dX3_missedIn_5 : decode cX3_missedIn 5 = .ok (.iload 5, 2) := by decide +kernel
theorem dX3_missedIn_7 : decode cX3_missedIn 7 = .ok (.iload_n 1, 1) := by decide +kernel
theorem dX3_missedIn_8 : decode cX3_missedIn 8 = .ok (.if_icmp .ge 30, 3) := by decide +kernel
theorem dX3_missedIn_11 : decode cX3_missedIn 11 = .ok (.lload_n 3, 1) := by decide +kernel
theorem dX3_missedIn_12 : decode cX3_missedIn 12 = .ok (.aload_n 0, 1) := by decide +kernel
theorem dX3_missedIn_13 : decode cX3_missedIn 13 = .ok (.iload 5, 2) := by decide +kernel
theorem dX3_missedIn_15 : decode cX3_missedIn 15 = .ok (.invokevirtual 38, 3) := by decide +kernel
theorem dX3_missedIn_18 : decode cX3_missedIn 18 = .ok (.i2l, 1) := by decide +kernel
theorem dX3_missedIn_19 : decode cX3_missedIn 19 = .ok (.iload_n 2, 1) := by decide +kernel
theorem dX3_missedIn_20 : decode cX3_missedIn 20 = .ok (.i2l, 1) := by decide +kernel
theorem dX3_missedIn_21 : decode cX3_missedIn 21 = .ok (.lmul, 1) := by decide +kernel
theorem dX3_missedIn_22 : decode cX3_missedIn 22 = .ok (.aload_n 0, 1) := by decide +kernel
theorem dX3_missedIn_23 : decode cX3_missedIn 23 = .ok (.iload 5, 2) := by decide +kernel
theorem dX3_missedIn_25 : decode cX3_missedIn 25 = .ok (.invokevirtual 42, 3) := by decide +kernel
theorem dX3_missedIn_28 : decode cX3_missedIn 28 = .ok (.i2l, 1) := by decide +kernel
theorem dX3_missedIn_29 : decode cX3_missedIn 29 = .ok (.lsub, 1) := by decide +kernel
theorem dX3_missedIn_30 : decode cX3_missedIn 30 = .ok (.ladd, 1) := by decide +kernel
theorem dX3_missedIn_31 : decode cX3_missedIn 31 = .ok (.lstore_n 3, 1) := by decide +kernel
theorem dX3_missedIn_32 : decode cX3_missedIn 32 = .ok (.iinc 5 1, 3) := by decide +kernel
theorem dX3_missedIn_35 : decode cX3_missedIn 35 = .ok (.goto (-30), 3) := by decide +kernel
theorem dX3_missedIn_38 : decode cX3_missedIn 38 = .ok (.lload_n 3, 1) := by decide +kernel
theorem dX3_missedIn_39 : decode cX3_missedIn 39 = .ok (.lreturn, 1) := by decide +kernel
set_option maxRecDepth 20000 in
theorem ggX3_isEven_X3_givenAt : GoodIn wsX3_isEven wsX3_givenAt := goodIn_r _ [6, 7, 8, 20, 21, 22, 23, 24, 25] (by decide +kernel) (by decide +kernel)
set_option maxRecDepth 20000 in
theorem gX3_isEven_X3_givenAt : GoodIn wsX3_isEven (wsV RX3 38 RX3 yX3_givenAt wsX3_givenAt) := goodIn_app (goodIn_of _ (by decide +kernel)) ggX3_isEven_X3_givenAt
set_option maxRecDepth 20000 in
theorem ggX3_isEven_X3_isEvenBy : GoodIn wsX3_isEven wsX3_isEvenBy := goodIn_r _ [12, 1, 13, 14, 15, 16, 17, 18, 19, 20, 21, 22, 23, 24, 25] (by decide +kernel) (by decide +kernel)
set_option maxRecDepth 20000 in
theorem gX3_isEven_X3_isEvenBy : GoodIn wsX3_isEven (wsV RX3 45 RX3 yX3_isEvenBy wsX3_isEvenBy) := goodIn_app (goodIn_of _ (by decide +kernel)) ggX3_isEven_X3_isEvenBy
theorem dX3_isEven_0 : decode cX3_isEven 0 = .ok (.iconst 0, 1) := by decide +kernel
theorem dX3_isEven_1 : decode cX3_isEven 1 = .ok (.istore_n 2, 1) := by decide +kernel
theorem dX3_isEven_2 : decode cX3_isEven 2 = .ok (.iload_n 2, 1) := by decide +kernel
theorem dX3_isEven_3 : decode cX3_isEven 3 = .ok (.iload_n 1, 1) := by decide +kernel
theorem dX3_isEven_4 : decode cX3_isEven 4 = .ok (.if_icmp .ge 36, 3) := by decide +kernel
theorem dX3_isEven_7 : decode cX3_isEven 7 = .ok (.iload_n 2, 1) := by decide +kernel
theorem dX3_isEven_8 : decode cX3_isEven 8 = .ok (.sipush 256, 3) := by decide +kernel
theorem dX3_isEven_11 : decode cX3_isEven 11 = .ok (.if_icmp .ge 29, 3) := by decide +kernel
theorem dX3_isEven_14 : decode cX3_isEven 14 = .ok (.aload_n 0, 1) := by decide +kernel
theorem dX3_isEven_15 : decode cX3_isEven 15 = .ok (.getfield 22, 3) := by decide +kernel
theorem dX3_isEven_18 : decode cX3_isEven 18 = .ok (.iload_n 2, 1) := by decide +kernel
theorem dX3_isEven_19 : decode cX3_isEven 19 = .ok (.iconst 1, 1) := by decide +kernel
theorem dX3_isEven_20 : decode cX3_isEven 20 = .ok (.iadd, 1) := by decide +kernel
theorem dX3_isEven_21 : decode cX3_isEven 21 = .ok (.aload_n 0, 1) := by decide +kernel
theorem dX3_isEven_22 : decode cX3_isEven 22 = .ok (.getfield 22, 3) := by decide +kernel
theorem dX3_isEven_25 : decode cX3_isEven 25 = .ok (.iload_n 2, 1) := by decide +kernel
theorem dX3_isEven_26 : decode cX3_isEven 26 = .ok (.iaload, 1) := by decide +kernel
theorem dX3_isEven_27 : decode cX3_isEven 27 = .ok (.aload_n 0, 1) := by decide +kernel
theorem dX3_isEven_28 : decode cX3_isEven 28 = .ok (.iload_n 2, 1) := by decide +kernel
theorem dX3_isEven_29 : decode cX3_isEven 29 = .ok (.invokevirtual 38, 3) := by decide +kernel
theorem dX3_isEven_32 : decode cX3_isEven 32 = .ok (.iadd, 1) := by decide +kernel
theorem dX3_isEven_33 : decode cX3_isEven 33 = .ok (.iastore, 1) := by decide +kernel
theorem dX3_isEven_34 : decode cX3_isEven 34 = .ok (.iinc 2 1, 3) := by decide +kernel
theorem dX3_isEven_37 : decode cX3_isEven 37 = .ok (.goto (-35), 3) := by decide +kernel
theorem dX3_isEven_40 : decode cX3_isEven 40 = .ok (.iconst 1, 1) := by decide +kernel
theorem dX3_isEven_41 : decode cX3_isEven 41 = .ok (.istore_n 2, 1) := by decide +kernel
theorem dX3_isEven_42 : decode cX3_isEven 42 = .ok (.iload_n 2, 1) := by decide +kernel
theorem dX3_isEven_43 : decode cX3_isEven 43 = .ok (.iload_n 1, 1) := by decide +kernel
theorem dX3_isEven_44 : decode cX3_isEven 44 = .ok (.if_icmp .ge 20, 3) := by decide +kernel
theorem dX3_isEven_47 : decode cX3_isEven 47 = .ok (.aload_n 0, 1) := by decide +kernel
theorem dX3_isEven_48 : decode cX3_isEven 48 = .ok (.iload_n 2, 1) := by decide +kernel
theorem dX3_isEven_49 : decode cX3_isEven 49 = .ok (.iload_n 1, 1) := by decide +kernel
theorem dX3_isEven_50 : decode cX3_isEven 50 = .ok (.invokevirtual 45, 3) := by decide +kernel
theorem dX3_isEven_53 : decode cX3_isEven 53 = .ok (.ifCond .ne 5, 3) := by decide +kernel
theorem dX3_isEven_56 : decode cX3_isEven 56 = .ok (.iconst 0, 1) := by decide +kernel
theorem dX3_isEven_57 : decode cX3_isEven 57 = .ok (.ireturn, 1) := by decide +kernel
theorem dX3_isEven_58 : decode cX3_isEven 58 = .ok (.iinc 2 1, 3) := by decide +kernel
theorem dX3_isEven_61 : decode cX3_isEven 61 = .ok (.goto (-19), 3) := by decide +kernel
theorem dX3_isEven_64 : decode cX3_isEven 64 = .ok (.iconst 1, 1) := by decide +kernel
theorem dX3_isEven_65 : decode cX3_isEven 65 = .ok (.ireturn, 1) := by decide +kernel
theorem dX3_isEvenBy_0 : decode cX3_isEvenBy 0 = .ok (.aload_n 0, 1) := by decide +kernel
theorem dX3_isEvenBy_1 : decode cX3_isEvenBy 1 = .ok (.getfield 22, 3) := by decide +kernel
theorem dX3_isEvenBy_4 : decode cX3_isEvenBy 4 = .ok (.iload_n 1, 1) := by decide +kernel
theorem dX3_isEvenBy_5 : decode cX3_isEvenBy 5 = .ok (.iaload, 1) := by decide +kernel
theorem dX3_isEvenBy_6 : decode cX3_isEvenBy 6 = .ok (.istore_n 3, 1) := by decide +kernel
theorem dX3_isEvenBy_7 : decode cX3_isEvenBy 7 = .ok (.iload_n 3, 1) := by decide +kernel
theorem dX3_isEvenBy_8 : decode cX3_isEvenBy 8 = .ok (.istore 4, 2) := by decide +kernel
theorem dX3_isEvenBy_10 : decode cX3_isEvenBy 10 = .ok (.iload_n 1, 1) := by decide +kernel
theorem dX3_isEvenBy_11 : decode cX3_isEvenBy 11 = .ok (.iconst 1, 1) := by decide +kernel
theorem dX3_isEvenBy_12 : decode cX3_isEvenBy 12 = .ok (.iadd, 1) := by decide +kernel
theorem dX3_isEvenBy_13 : decode cX3_isEvenBy 13 = .ok (.istore 5, 2) := by decide +kernel
theorem dX3_isEvenBy_15 : decode cX3_isEvenBy 15 = .ok (.iload 5, 2) := by decide +kernel
theorem dX3_isEvenBy_17 : decode cX3_isEvenBy 17 = .ok (.iload_n 2, 1) := by decide +kernel
theorem dX3_isEvenBy_18 : decode cX3_isEvenBy 18 = .ok (.if_icmp .gt 44, 3) := by decide +kernel
theorem dX3_isEvenBy_21 : decode cX3_isEvenBy 21 = .ok (.aload_n 0, 1) := by decide +kernel
theorem dX3_isEvenBy_22 : decode cX3_isEvenBy 22 = .ok (.getfield 22, 3) := by decide +kernel
theorem dX3_isEvenBy_25 : decode cX3_isEvenBy 25 = .ok (.iload 5, 2) := by decide +kernel
theorem dX3_isEvenBy_27 : decode cX3_isEvenBy 27 = .ok (.iaload, 1) := by decide +kernel
theorem dX3_isEvenBy_28 : decode cX3_isEvenBy 28 = .ok (.aload_n 0, 1) := by decide +kernel
theorem dX3_isEvenBy_29 : decode cX3_isEvenBy 29 = .ok (.getfield 22, 3) := by decide +kernel
theorem dX3_isEvenBy_32 : decode cX3_isEvenBy 32 = .ok (.iload 5, 2) := by decide +kernel
theorem dX3_isEvenBy_34 : decode cX3_isEvenBy 34 = .ok (.iload_n 1, 1) := by decide +kernel
theorem dX3_isEvenBy_35 : decode cX3_isEvenBy 35 = .ok (.isub, 1) := by decide +kernel
theorem dX3_isEvenBy_36 : decode cX3_isEvenBy 36 = .ok (.iaload, 1) := by decide +kernel
theorem dX3_isEvenBy_37 : decode cX3_isEvenBy 37 = .ok (.isub, 1) := by decide +kernel
theorem dX3_isEvenBy_38 : decode cX3_isEvenBy 38 = .ok (.istore 6, 2) := by decide +kernel
theorem dX3_isEvenBy_40 : decode cX3_isEvenBy 40 = .ok (.iload_n 3, 1) := by decide +kernel
theorem dX3_isEvenBy_41 : decode cX3_isEvenBy 41 = .ok (.iload 6, 2) := by decide +kernel
theorem dX3_isEvenBy_43 : decode cX3_isEvenBy 43 = .ok (.invokestatic 32, 3) := by decide +kernel
theorem dX3_isEvenBy_46 : decode cX3_isEvenBy 46 = .ok (.istore_n 3, 1) := by decide +kernel
theorem dX3_isEvenBy_47 : decode cX3_isEvenBy 47 = .ok (.iload 4, 2) := by decide +kernel
theorem dX3_isEvenBy_49 : decode cX3_isEvenBy 49 = .ok (.iload 6, 2) := by decide +kernel
theorem dX3_isEvenBy_51 : decode cX3_isEvenBy 51 = .ok (.invokestatic 49, 3) := by decide +kernel
theorem dX3_isEvenBy_54 : decode cX3_isEvenBy 54 = .ok (.istore 4, 2) := by decide +kernel
theorem dX3_isEvenBy_56 : decode cX3_isEvenBy 56 = .ok (.iinc 5 1, 3) := by decide +kernel
theorem dX3_isEvenBy_59 : decode cX3_isEvenBy 59 = .ok (.goto (-44), 3) := by decide +kernel
theorem dX3_isEvenBy_62 : decode cX3_isEvenBy 62 = .ok (.iload 4, 2) := by decide +kernel
theorem dX3_isEvenBy_64 : decode cX3_isEvenBy 64 = .ok (.iload_n 3, 1) := by decide +kernel
theorem dX3_isEvenBy_65 : decode cX3_isEvenBy 65 = .ok (.isub, 1) := by decide +kernel
theorem dX3_isEvenBy_66 : decode cX3_isEvenBy 66 = .ok (.iconst 1, 1) := by decide +kernel
theorem dX3_isEvenBy_67 : decode cX3_isEvenBy 67 = .ok (.if_icmp .gt 7, 3) := by decide +kernel
theorem dX3_isEvenBy_70 : decode cX3_isEvenBy 70 = .ok (.iconst 1, 1) := by decide +kernel
theorem dX3_isEvenBy_71 : decode cX3_isEvenBy 71 = .ok (.goto 4, 3) := by decide +kernel
theorem dX3_isEvenBy_74 : decode cX3_isEvenBy 74 = .ok (.iconst 0, 1) := by decide +kernel
theorem dX3_isEvenBy_75 : decode cX3_isEvenBy 75 = .ok (.ireturn, 1) := by decide +kernel
set_option maxRecDepth 20000 in
theorem ggX4_init_X9_init : GoodIn wsX4_init wsX9_init := goodIn_r _ [19, 20, 2, 3, 21, 22, 23, 24, 53, 54, 55, 56, 57] (by decide +kernel) (by decide +kernel)
set_option maxRecDepth 20000 in
theorem gX4_init_X9_init_n11 : GoodIn wsX4_init (wsX9_init) := ggX4_init_X9_init
set_option maxRecDepth 20000 in
theorem ggX4_init_X3_init : GoodIn wsX4_init wsX3_init := goodIn_r _ [26, 27, 2, 3, 23, 28, 29, 12, 30, 31, 67, 68, 69, 70, 71, 72] (by decide +kernel) (by decide +kernel)
set_option maxRecDepth 20000 in
theorem gX4_init_X3_init_n20 : GoodIn wsX4_init (wsX3_init) := ggX4_init_X3_init
set_option maxRecDepth 20000 in
theorem ggX4_init_X5_init : GoodIn wsX4_init wsX5_init := goodIn_r _ [34, 35, 2, 3, 36, 37, 38, 39, 12, 40, 23, 41, 42, 43, 44, 45, 46, 47, 48, 49, 50, 51, 52, 79, 80, 81, 82, 83, 84, 73, 74, 75, 76, 77, 78] (by decide +kernel) (by decide +kernel)
set_option maxRecDepth 20000 in
theorem gX4_init_X5_init : GoodIn wsX4_init (wsX5_init) := ggX4_init_X5_init
theorem dX4_init_0 : decode cX4_init 0 = .ok (.aload_n 0, 1) := by decide +kernel
theorem dX4_init_1 : decode cX4_init 1 = .ok (.invokespecial 3, 3) := by decide +kernel
theorem dX4_init_4 : decode cX4_init 4 = .ok (.aload_n 0, 1) := by decide +kernel
theorem dX4_init_5 : decode cX4_init 5 = .ok (.new 9, 3) := by decide +kernel
theorem dX4_init_8 : decode cX4_init 8 = .ok (.dup, 1) := by decide +kernel
theorem dX4_init_9 : decode cX4_init 9 = .ok (.invokespecial 11, 3) := by decide +kernel
theorem dX4_init_12 : decode cX4_init 12 = .ok (.putfield 12, 3) := by decide +kernel
theorem dX4_init_15 : decode cX4_init 15 = .ok (.aload_n 0, 1) := by decide +kernel
theorem dX4_init_16 : decode cX4_init 16 = .ok (.new 18, 3) := by decide +kernel
theorem dX4_init_19 : decode cX4_init 19 = .ok (.dup, 1) := by decide +kernel
theorem dX4_init_20 : decode cX4_init 20 = .ok (.invokespecial 20, 3) := by decide +kernel
theorem dX4_init_23 : decode cX4_init 23 = .ok (.putfield 21, 3) := by decide +kernel
theorem dX4_init_26 : decode cX4_init 26 = .ok (.aload_n 0, 1) := by decide +kernel
theorem dX4_init_27 : decode cX4_init 27 = .ok (.iconst 4, 1) := by decide +kernel
theorem dX4_init_28 : decode cX4_init 28 = .ok (.newarray .long, 2) := by decide +kernel
theorem dX4_init_30 : decode cX4_init 30 = .ok (.putfield 25, 3) := by decide +kernel
theorem dX4_init_33 : decode cX4_init 33 = .ok (.aload_n 0, 1) := by decide +kernel
theorem dX4_init_34 : decode cX4_init 34 = .ok (.new 29, 3) := by decide +kernel
theorem dX4_init_37 : decode cX4_init 37 = .ok (.dup, 1) := by decide +kernel
theorem dX4_init_38 : decode cX4_init 38 = .ok (.aload_n 1, 1) := by decide +kernel
theorem dX4_init_39 : decode cX4_init 39 = .ok (.invokespecial 31, 3) := by decide +kernel
theorem dX4_init_42 : decode cX4_init 42 = .ok (.putfield 34, 3) := by decide +kernel
theorem dX4_init_45 : decode cX4_init 45 = .ok (.return_, 1) := by decide +kernel
set_option maxRecDepth 20000 in
theorem ggX4_begin_X5_begin : GoodIn wsX4_begin wsX5_begin := goodIn_r _ [7, 8, 9, 10, 11, 12, 13, 14, 15, 16, 17, 18, 19, 20, 21, 65, 66, 67, 68, 69, 70, 71, 72, 73, 74, 75, 76] (by decide +kernel) (by decide +kernel)
set_option maxRecDepth 20000 in
theorem gX4_begin_X5_begin : GoodIn wsX4_begin (wsV RX4 38 RX5 yX5_begin wsX5_begin) := goodIn_app (goodIn_of _ (by decide +kernel)) ggX4_begin_X5_begin
set_option maxRecDepth 20000 in
theorem ggX4_begin_X9_begin : GoodIn wsX4_begin wsX9_begin := goodIn_r _ [26, 27, 28, 29, 30, 31, 25, 32, 33, 34, 35, 77, 78, 79, 80, 81] (by decide +kernel) (by decide +kernel)
set_option maxRecDepth 20000 in
theorem gX4_begin_X9_begin : GoodIn wsX4_begin (wsV RX4 42 RX9 yX9_begin wsX9_begin) := goodIn_app (goodIn_of _ (by decide +kernel)) ggX4_begin_X9_begin
set_option maxRecDepth 20000 in
theorem ggX4_begin_X4_beginAnew : GoodIn wsX4_begin wsX4_beginAnew := goodIn_r _ [40, 41, 42, 43, 44, 45, 46, 2, 47, 48, 30, 31, 25, 32, 33, 34, 35, 49, 50, 51, 52, 53, 54, 55, 56, 57, 58, 59, 60, 61, 62, 63, 64, 77, 78, 79, 80, 81, 82, 83, 84, 85, 86, 87] (by decide +kernel) (by decide +kernel)
set_option maxRecDepth 20000 in
theorem gX4_begin_X4_beginAnew : GoodIn wsX4_begin (wsV RX4 43 RX4 yX4_beginAnew wsX4_beginAnew) := goodIn_app (goodIn_of _ (by decide +kernel)) ggX4_begin_X4_beginAnew
theorem dX4_begin_0 : decode cX4_begin 0 = .ok (.aload_n 0, 1) := by decide +kernel
theorem dX4_begin_1 : decode cX4_begin 1 = .ok (.getfield 34, 3) := by decide +kernel
theorem dX4_begin_4 : decode cX4_begin 4 = .ok (.iload_n 1, 1) := by decide +kernel
theorem dX4_begin_5 : decode cX4_begin 5 = .ok (.iload_n 2, 1) := by decide +kernel
theorem dX4_begin_6 : decode cX4_begin 6 = .ok (.invokevirtual 38, 3) := by decide +kernel
theorem dX4_begin_9 : decode cX4_begin 9 = .ok (.aload_n 0, 1) := by decide +kernel
theorem dX4_begin_10 : decode cX4_begin 10 = .ok (.getfield 12, 3) := by decide +kernel
theorem dX4_begin_13 : decode cX4_begin 13 = .ok (.iload_n 1, 1) := by decide +kernel
theorem dX4_begin_14 : decode cX4_begin 14 = .ok (.iconst 4, 1) := by decide +kernel
theorem dX4_begin_15 : decode cX4_begin 15 = .ok (.if_icmp .ne 7, 3) := by decide +kernel
theorem dX4_begin_18 : decode cX4_begin 18 = .ok (.iload_n 2, 1) := by decide +kernel
theorem dX4_begin_19 : decode cX4_begin 19 = .ok (.goto 4, 3) := by decide +kernel
theorem dX4_begin_22 : decode cX4_begin 22 = .ok (.iconst 0, 1) := by decide +kernel
theorem dX4_begin_23 : decode cX4_begin 23 = .ok (.iload_n 3, 1) := by decide +kernel
theorem dX4_begin_24 : decode cX4_begin 24 = .ok (.invokevirtual 42, 3) := by decide +kernel
theorem dX4_begin_27 : decode cX4_begin 27 = .ok (.aload_n 0, 1) := by decide +kernel
theorem dX4_begin_28 : decode cX4_begin 28 = .ok (.invokevirtual 43, 3) := by decide +kernel
theorem dX4_begin_31 : decode cX4_begin 31 = .ok (.return_, 1) := by decide +kernel
set_option maxRecDepth 20000 in
theorem ggX4_beginAnew_X9_beginAnew : GoodIn wsX4_beginAnew wsX9_beginAnew := goodIn_r _ [13, 14, 15, 16, 33, 34, 35, 36, 37] (by decide +kernel) (by decide +kernel)
set_option maxRecDepth 20000 in
theorem gX4_beginAnew_X9_beginAnew : GoodIn wsX4_beginAnew (wsV RX4 63 RX9 yX9_beginAnew wsX9_beginAnew) := goodIn_app (goodIn_of _ (by decide +kernel)) ggX4_beginAnew_X9_beginAnew
set_option maxRecDepth 20000 in
theorem ggX4_beginAnew_X3_forget : GoodIn wsX4_beginAnew wsX3_forget := goodIn_r _ [21, 22, 23, 38, 39, 40, 41, 42, 43] (by decide +kernel) (by decide +kernel)
set_option maxRecDepth 20000 in
theorem gX4_beginAnew_X3_forget : GoodIn wsX4_beginAnew (wsV RX4 64 RX3 yX3_forget wsX3_forget) := goodIn_app (goodIn_of _ (by decide +kernel)) ggX4_beginAnew_X3_forget
theorem dX4_beginAnew_0 : decode cX4_beginAnew 0 = .ok (.iconst 0, 1) := by decide +kernel
theorem dX4_beginAnew_1 : decode cX4_beginAnew 1 = .ok (.istore_n 1, 1) := by decide +kernel
theorem dX4_beginAnew_2 : decode cX4_beginAnew 2 = .ok (.iload_n 1, 1) := by decide +kernel
theorem dX4_beginAnew_3 : decode cX4_beginAnew 3 = .ok (.iconst 4, 1) := by decide +kernel
theorem dX4_beginAnew_4 : decode cX4_beginAnew 4 = .ok (.if_icmp .ge 16, 3) := by decide +kernel
theorem dX4_beginAnew_7 : decode cX4_beginAnew 7 = .ok (.aload_n 0, 1) := by decide +kernel
theorem dX4_beginAnew_8 : decode cX4_beginAnew 8 = .ok (.getfield 25, 3) := by decide +kernel
theorem dX4_beginAnew_11 : decode cX4_beginAnew 11 = .ok (.iload_n 1, 1) := by decide +kernel
theorem dX4_beginAnew_12 : decode cX4_beginAnew 12 = .ok (.lconst 0, 1) := by decide +kernel
theorem dX4_beginAnew_13 : decode cX4_beginAnew 13 = .ok (.lastore, 1) := by decide +kernel
theorem dX4_beginAnew_14 : decode cX4_beginAnew 14 = .ok (.iinc 1 1, 3) := by decide +kernel
theorem dX4_beginAnew_17 : decode cX4_beginAnew 17 = .ok (.goto (-15), 3) := by decide +kernel
theorem dX4_beginAnew_20 : decode cX4_beginAnew 20 = .ok (.aload_n 0, 1) := by decide +kernel
theorem dX4_beginAnew_21 : decode cX4_beginAnew 21 = .ok (.iconst 0, 1) := by decide +kernel
theorem dX4_beginAnew_22 : decode cX4_beginAnew 22 = .ok (.putfield 46, 3) := by decide +kernel
theorem dX4_beginAnew_25 : decode cX4_beginAnew 25 = .ok (.aload_n 0, 1) := by decide +kernel
theorem dX4_beginAnew_26 : decode cX4_beginAnew 26 = .ok (.lconst 0, 1) := by decide +kernel
theorem dX4_beginAnew_27 : decode cX4_beginAnew 27 = .ok (.putfield 50, 3) := by decide +kernel
theorem dX4_beginAnew_30 : decode cX4_beginAnew 30 = .ok (.aload_n 0, 1) := by decide +kernel
theorem dX4_beginAnew_31 : decode cX4_beginAnew 31 = .ok (.iconst 0, 1) := by decide +kernel
theorem dX4_beginAnew_32 : decode cX4_beginAnew 32 = .ok (.putfield 54, 3) := by decide +kernel
theorem dX4_beginAnew_35 : decode cX4_beginAnew 35 = .ok (.aload_n 0, 1) := by decide +kernel
theorem dX4_beginAnew_36 : decode cX4_beginAnew 36 = .ok (.iconst 0, 1) := by decide +kernel
theorem dX4_beginAnew_37 : decode cX4_beginAnew 37 = .ok (.putfield 57, 3) := by decide +kernel
theorem dX4_beginAnew_40 : decode cX4_beginAnew 40 = .ok (.aload_n 0, 1) := by decide +kernel
theorem dX4_beginAnew_41 : decode cX4_beginAnew 41 = .ok (.iconst 0, 1) := by decide +kernel
theorem dX4_beginAnew_42 : decode cX4_beginAnew 42 = .ok (.putfield 60, 3) := by decide +kernel
theorem dX4_beginAnew_45 : decode cX4_beginAnew 45 = .ok (.aload_n 0, 1) := by decide +kernel
theorem dX4_beginAnew_46 : decode cX4_beginAnew 46 = .ok (.getfield 12, 3) := by decide +kernel
theorem dX4_beginAnew_49 : decode cX4_beginAnew 49 = .ok (.invokevirtual 63, 3) := by decide +kernel
theorem dX4_beginAnew_52 : decode cX4_beginAnew 52 = .ok (.aload_n 0, 1) := by decide +kernel
theorem dX4_beginAnew_53 : decode cX4_beginAnew 53 = .ok (.getfield 21, 3) := by decide +kernel
theorem dX4_beginAnew_56 : decode cX4_beginAnew 56 = .ok (.invokevirtual 64, 3) := by decide +kernel
theorem dX4_beginAnew_59 : decode cX4_beginAnew 59 = .ok (.return_, 1) := by decide +kernel
theorem dX4_startAt_0 : decode cX4_startAt 0 = .ok (.aload_n 0, 1) := by decide +kernel
theorem dX4_startAt_1 : decode cX4_startAt 1 = .ok (.getfield 25, 3) := by decide +kernel
theorem dX4_startAt_4 : decode cX4_startAt 4 = .ok (.iload_n 1, 1) := by decide +kernel
theorem dX4_startAt_5 : decode cX4_startAt 5 = .ok (.lload_n 2, 1) := by decide +kernel
theorem dX4_startAt_6 : decode cX4_startAt 6 = .ok (.lastore, 1) := by decide +kernel
theorem dX4_startAt_7 : decode cX4_startAt 7 = .ok (.iload_n 1, 1) := by decide +kernel
theorem dX4_startAt_8 : decode cX4_startAt 8 = .ok (.ifCond .ne 8, 3) := by decide +kernel
theorem dX4_startAt_11 : decode cX4_startAt 11 = .ok (.aload_n 0, 1) := by decide +kernel
theorem dX4_startAt_12 : decode cX4_startAt 12 = .ok (.lload_n 2, 1) := by decide +kernel
theorem dX4_startAt_13 : decode cX4_startAt 13 = .ok (.putfield 50, 3) := by decide +kernel
theorem dX4_startAt_16 : decode cX4_startAt 16 = .ok (.return_, 1) := by decide +kernel
set_option maxRecDepth 20000 in
theorem ggX4_turn_X5_advance : GoodIn wsX4_turn wsX5_advance := goodIn_r _ [11, 12, 13, 14, 15, 10, 16, 17, 18, 19, 20, 21, 22, 23, 24, 25, 26, 27, 28, 29, 30, 31, 32, 33, 34, 35, 36, 37, 38, 39, 40, 41, 42, 43, 44, 45, 46, 47, 48, 49, 50, 51, 52, 53, 54, 55, 56, 57, 58, 59, 60, 61, 62, 63, 64, 65, 66, 67, 68, 69, 70, 128, 129, 130, 131, 132, 133, 134, 135, 136, 137, 138, 139, 140, 141, 142] (by decide +kernel) (by decide +kernel)
set_option maxRecDepth 20000 in
theorem gX4_turn_X5_advance : GoodIn wsX4_turn (wsV RX4 67 RX5 yX5_advance wsX5_advance) := goodIn_app (goodIn_of _ (by decide +kernel)) ggX4_turn_X5_advance
set_option maxRecDepth 20000 in
theorem ggX4_turn_X4_giveOfRow : GoodIn wsX4_turn wsX4_giveOfRow := goodIn_r _ [75, 1, 76, 77, 78, 119, 120, 121, 122, 123, 124, 125, 126, 127, 128, 129, 130, 131, 132, 133] (by decide +kernel) (by decide +kernel)
set_option maxRecDepth 20000 in
theorem gX4_turn_X4_giveOfRow : GoodIn wsX4_turn (wsV RX4 75 RX4 yX4_giveOfRow wsX4_giveOfRow) := goodIn_app (goodIn_of _ (by decide +kernel)) ggX4_turn_X4_giveOfRow
set_option maxRecDepth 20000 in
theorem ggX4_turn_X3_note : GoodIn wsX4_turn wsX3_note := goodIn_r _ [83, 84, 85, 86, 87, 88, 89, 90, 91, 92, 143, 144, 145, 146, 147, 148] (by decide +kernel) (by decide +kernel)
set_option maxRecDepth 20000 in
theorem gX4_turn_X3_note : GoodIn wsX4_turn (wsV RX4 83 RX3 yX3_note wsX3_note) := goodIn_app (goodIn_of _ (by decide +kernel)) ggX4_turn_X3_note
set_option maxRecDepth 20000 in
theorem ggX4_turn_X9_turn : GoodIn wsX4_turn wsX9_turn := goodIn_r _ [97, 98, 99, 90, 91, 92, 100, 101, 102, 103, 104, 105, 106, 107, 96, 108, 109, 110, 111, 112, 113, 114, 115, 116, 117, 118, 149, 150, 151, 152, 153] (by decide +kernel) (by decide +kernel)
set_option maxRecDepth 20000 in
theorem gX4_turn_X9_turn : GoodIn wsX4_turn (wsV RX4 87 RX9 yX9_turn wsX9_turn) := goodIn_app (goodIn_of _ (by decide +kernel)) ggX4_turn_X9_turn
theorem dX4_turn_0 : decode cX4_turn 0 = .ok (.aload_n 0, 1) := by decide +kernel
theorem dX4_turn_1 : decode cX4_turn 1 = .ok (.getfield 34, 3) := by decide +kernel
theorem dX4_turn_4 : decode cX4_turn 4 = .ok (.aload_n 0, 1) := by decide +kernel
theorem dX4_turn_5 : decode cX4_turn 5 = .ok (.getfield 25, 3) := by decide +kernel
theorem dX4_turn_8 : decode cX4_turn 8 = .ok (.iload_n 1, 1) := by decide +kernel
theorem dX4_turn_9 : decode cX4_turn 9 = .ok (.invokevirtual 67, 3) := by decide +kernel
theorem dX4_turn_12 : decode cX4_turn 12 = .ok (.ifCond .ne 6, 3) := by decide +kernel
theorem dX4_turn_15 : decode cX4_turn 15 = .ok (.ldc 71, 2) := by decide +kernel
theorem dX4_turn_17 : decode cX4_turn 17 = .ok (.ireturn, 1) := by decide +kernel
theorem dX4_turn_18 : decode cX4_turn 18 = .ok (.aload_n 0, 1) := by decide +kernel
theorem dX4_turn_19 : decode cX4_turn 19 = .ok (.getfield 34, 3) := by decide +kernel
theorem dX4_turn_22 : decode cX4_turn 22 = .ok (.getfield 72, 3) := by decide +kernel
theorem dX4_turn_25 : decode cX4_turn 25 = .ok (.iconst 3, 1) := by decide +kernel
theorem dX4_turn_26 : decode cX4_turn 26 = .ok (.if_icmp .ne 10, 3) := by decide +kernel
theorem dX4_turn_29 : decode cX4_turn 29 = .ok (.aload_n 0, 1) := by decide +kernel
theorem dX4_turn_30 : decode cX4_turn 30 = .ok (.invokevirtual 75, 3) := by decide +kernel
theorem dX4_turn_33 : decode cX4_turn 33 = .ok (.goto 12, 3) := by decide +kernel
theorem dX4_turn_36 : decode cX4_turn 36 = .ok (.aload_n 0, 1) := by decide +kernel
theorem dX4_turn_37 : decode cX4_turn 37 = .ok (.getfield 34, 3) := by decide +kernel
theorem dX4_turn_40 : decode cX4_turn 40 = .ok (.getfield 79, 3) := by decide +kernel
theorem dX4_turn_43 : decode cX4_turn 43 = .ok (.iconst 0, 1) := by decide +kernel
theorem dX4_turn_44 : decode cX4_turn 44 = .ok (.iaload, 1) := by decide +kernel
theorem dX4_turn_45 : decode cX4_turn 45 = .ok (.istore_n 2, 1) := by decide +kernel
theorem dX4_turn_46 : decode cX4_turn 46 = .ok (.aload_n 0, 1) := by decide +kernel
theorem dX4_turn_47 : decode cX4_turn 47 = .ok (.dup, 1) := by decide +kernel
theorem dX4_turn_48 : decode cX4_turn 48 = .ok (.getfield 46, 3) := by decide +kernel
theorem dX4_turn_51 : decode cX4_turn 51 = .ok (.iconst 1, 1) := by decide +kernel
theorem dX4_turn_52 : decode cX4_turn 52 = .ok (.iadd, 1) := by decide +kernel
theorem dX4_turn_53 : decode cX4_turn 53 = .ok (.putfield 46, 3) := by decide +kernel
theorem dX4_turn_56 : decode cX4_turn 56 = .ok (.aload_n 0, 1) := by decide +kernel
theorem dX4_turn_57 : decode cX4_turn 57 = .ok (.getfield 21, 3) := by decide +kernel
theorem dX4_turn_60 : decode cX4_turn 60 = .ok (.iload_n 1, 1) := by decide +kernel
theorem dX4_turn_61 : decode cX4_turn 61 = .ok (.iload_n 2, 1) := by decide +kernel
theorem dX4_turn_62 : decode cX4_turn 62 = .ok (.aload_n 0, 1) := by decide +kernel
theorem dX4_turn_63 : decode cX4_turn 63 = .ok (.getfield 25, 3) := by decide +kernel
theorem dX4_turn_66 : decode cX4_turn 66 = .ok (.iconst 0, 1) := by decide +kernel
theorem dX4_turn_67 : decode cX4_turn 67 = .ok (.laload, 1) := by decide +kernel
theorem dX4_turn_68 : decode cX4_turn 68 = .ok (.invokevirtual 83, 3) := by decide +kernel
theorem dX4_turn_71 : decode cX4_turn 71 = .ok (.aload_n 0, 1) := by decide +kernel
theorem dX4_turn_72 : decode cX4_turn 72 = .ok (.getfield 12, 3) := by decide +kernel
theorem dX4_turn_75 : decode cX4_turn 75 = .ok (.iload_n 2, 1) := by decide +kernel
theorem dX4_turn_76 : decode cX4_turn 76 = .ok (.invokevirtual 87, 3) := by decide +kernel
theorem dX4_turn_79 : decode cX4_turn 79 = .ok (.iload_n 2, 1) := by decide +kernel
theorem dX4_turn_80 : decode cX4_turn 80 = .ok (.ireturn, 1) := by decide +kernel
theorem dX4_giveOfRow_0 : decode cX4_giveOfRow 0 = .ok (.aload_n 0, 1) := by decide +kernel
theorem dX4_giveOfRow_1 : decode cX4_giveOfRow 1 = .ok (.getfield 34, 3) := by decide +kernel
theorem dX4_giveOfRow_4 : decode cX4_giveOfRow 4 = .ok (.getfield 79, 3) := by decide +kernel
theorem dX4_giveOfRow_7 : decode cX4_giveOfRow 7 = .ok (.iconst 1, 1) := by decide +kernel
theorem dX4_giveOfRow_8 : decode cX4_giveOfRow 8 = .ok (.iaload, 1) := by decide +kernel
theorem dX4_giveOfRow_9 : decode cX4_giveOfRow 9 = .ok (.istore_n 1, 1) := by decide +kernel
theorem dX4_giveOfRow_10 : decode cX4_giveOfRow 10 = .ok (.aload_n 0, 1) := by decide +kernel
theorem dX4_giveOfRow_11 : decode cX4_giveOfRow 11 = .ok (.getfield 34, 3) := by decide +kernel
theorem dX4_giveOfRow_14 : decode cX4_giveOfRow 14 = .ok (.getfield 79, 3) := by decide +kernel
theorem dX4_giveOfRow_17 : decode cX4_giveOfRow 17 = .ok (.iconst 0, 1) := by decide +kernel
theorem dX4_giveOfRow_18 : decode cX4_giveOfRow 18 = .ok (.iaload, 1) := by decide +kernel
theorem dX4_giveOfRow_19 : decode cX4_giveOfRow 19 = .ok (.iload_n 1, 1) := by decide +kernel
theorem dX4_giveOfRow_20 : decode cX4_giveOfRow 20 = .ok (.iadd, 1) := by decide +kernel
theorem dX4_giveOfRow_21 : decode cX4_giveOfRow 21 = .ok (.aload_n 0, 1) := by decide +kernel
theorem dX4_giveOfRow_22 : decode cX4_giveOfRow 22 = .ok (.getfield 54, 3) := by decide +kernel
theorem dX4_giveOfRow_25 : decode cX4_giveOfRow 25 = .ok (.isub, 1) := by decide +kernel
theorem dX4_giveOfRow_26 : decode cX4_giveOfRow 26 = .ok (.istore_n 2, 1) := by decide +kernel
theorem dX4_giveOfRow_27 : decode cX4_giveOfRow 27 = .ok (.aload_n 0, 1) := by decide +kernel
theorem dX4_giveOfRow_28 : decode cX4_giveOfRow 28 = .ok (.iload_n 1, 1) := by decide +kernel
theorem dX4_giveOfRow_29 : decode cX4_giveOfRow 29 = .ok (.putfield 54, 3) := by decide +kernel
theorem dX4_giveOfRow_32 : decode cX4_giveOfRow 32 = .ok (.aload_n 0, 1) := by decide +kernel
theorem dX4_giveOfRow_33 : decode cX4_giveOfRow 33 = .ok (.getfield 34, 3) := by decide +kernel
theorem dX4_giveOfRow_36 : decode cX4_giveOfRow 36 = .ok (.getfield 91, 3) := by decide +kernel
theorem dX4_giveOfRow_39 : decode cX4_giveOfRow 39 = .ok (.iconst 3, 1) := by decide +kernel
theorem dX4_giveOfRow_40 : decode cX4_giveOfRow 40 = .ok (.if_icmp .ne 42, 3) := by decide +kernel
theorem dX4_giveOfRow_43 : decode cX4_giveOfRow 43 = .ok (.aload_n 0, 1) := by decide +kernel
theorem dX4_giveOfRow_44 : decode cX4_giveOfRow 44 = .ok (.getfield 34, 3) := by decide +kernel
theorem dX4_giveOfRow_47 : decode cX4_giveOfRow 47 = .ok (.getfield 79, 3) := by decide +kernel
theorem dX4_giveOfRow_50 : decode cX4_giveOfRow 50 = .ok (.iconst 2, 1) := by decide +kernel
theorem dX4_giveOfRow_51 : decode cX4_giveOfRow 51 = .ok (.iaload, 1) := by decide +kernel
theorem dX4_giveOfRow_52 : decode cX4_giveOfRow 52 = .ok (.istore_n 3, 1) := by decide +kernel
theorem dX4_giveOfRow_53 : decode cX4_giveOfRow 53 = .ok (.iload_n 2, 1) := by decide +kernel
theorem dX4_giveOfRow_54 : decode cX4_giveOfRow 54 = .ok (.iload_n 3, 1) := by decide +kernel
theorem dX4_giveOfRow_55 : decode cX4_giveOfRow 55 = .ok (.iconst 2, 1) := by decide +kernel
theorem dX4_giveOfRow_56 : decode cX4_giveOfRow 56 = .ok (.aload_n 0, 1) := by decide +kernel
theorem dX4_giveOfRow_57 : decode cX4_giveOfRow 57 = .ok (.getfield 57, 3) := by decide +kernel
theorem dX4_giveOfRow_60 : decode cX4_giveOfRow 60 = .ok (.imul, 1) := by decide +kernel
theorem dX4_giveOfRow_61 : decode cX4_giveOfRow 61 = .ok (.isub, 1) := by decide +kernel
theorem dX4_giveOfRow_62 : decode cX4_giveOfRow 62 = .ok (.aload_n 0, 1) := by decide +kernel
theorem dX4_giveOfRow_63 : decode cX4_giveOfRow 63 = .ok (.getfield 60, 3) := by decide +kernel
theorem dX4_giveOfRow_66 : decode cX4_giveOfRow 66 = .ok (.iadd, 1) := by decide +kernel
theorem dX4_giveOfRow_67 : decode cX4_giveOfRow 67 = .ok (.iadd, 1) := by decide +kernel
theorem dX4_giveOfRow_68 : decode cX4_giveOfRow 68 = .ok (.istore_n 2, 1) := by decide +kernel
theorem dX4_giveOfRow_69 : decode cX4_giveOfRow 69 = .ok (.aload_n 0, 1) := by decide +kernel
theorem dX4_giveOfRow_70 : decode cX4_giveOfRow 70 = .ok (.aload_n 0, 1) := by decide +kernel
theorem dX4_giveOfRow_71 : decode cX4_giveOfRow 71 = .ok (.getfield 57, 3) := by decide +kernel
theorem dX4_giveOfRow_74 : decode cX4_giveOfRow 74 = .ok (.putfield 60, 3) := by decide +kernel
theorem dX4_giveOfRow_77 : decode cX4_giveOfRow 77 = .ok (.aload_n 0, 1) := by decide +kernel
theorem dX4_giveOfRow_78 : decode cX4_giveOfRow 78 = .ok (.iload_n 3, 1) := by decide +kernel
theorem dX4_giveOfRow_79 : decode cX4_giveOfRow 79 = .ok (.putfield 57, 3) := by decide +kernel
theorem dX4_giveOfRow_82 : decode cX4_giveOfRow 82 = .ok (.iload_n 2, 1) := by decide +kernel
theorem dX4_giveOfRow_83 : decode cX4_giveOfRow 83 = .ok (.ireturn, 1) := by decide +kernel
set_option maxRecDepth 20000 in
theorem ggX4_canClaim_X3_holdsLast : GoodIn wsX4_canClaim wsX3_holdsLast := goodIn_r _ [9, 10, 26, 27, 28, 29, 30, 31] (by decide +kernel) (by decide +kernel)
set_option maxRecDepth 20000 in
theorem gX4_canClaim_X3_holdsLast : GoodIn wsX4_canClaim (wsV RX4 96 RX3 yX3_holdsLast wsX3_holdsLast) := goodIn_app (goodIn_of _ (by decide +kernel)) ggX4_canClaim_X3_holdsLast
theorem dX4_canClaim_0 : decode cX4_canClaim 0 = .ok (.aload_n 0, 1) := by decide +kernel
theorem dX4_canClaim_1 : decode cX4_canClaim 1 = .ok (.getfield 34, 3) := by decide +kernel
theorem dX4_canClaim_4 : decode cX4_canClaim 4 = .ok (.getfield 72, 3) := by decide +kernel
theorem dX4_canClaim_7 : decode cX4_canClaim 7 = .ok (.ifCond .ne 41, 3) := by decide +kernel
theorem dX4_canClaim_10 : decode cX4_canClaim 10 = .ok (.aload_n 0, 1) := by decide +kernel
theorem dX4_canClaim_11 : decode cX4_canClaim 11 = .ok (.getfield 50, 3) := by decide +kernel
theorem dX4_canClaim_14 : decode cX4_canClaim 14 = .ok (.lconst 0, 1) := by decide +kernel
theorem dX4_canClaim_15 : decode cX4_canClaim 15 = .ok (.lcmp, 1) := by decide +kernel
theorem dX4_canClaim_16 : decode cX4_canClaim 16 = .ok (.ifCond .ne 32, 3) := by decide +kernel
theorem dX4_canClaim_19 : decode cX4_canClaim 19 = .ok (.aload_n 0, 1) := by decide +kernel
theorem dX4_canClaim_20 : decode cX4_canClaim 20 = .ok (.getfield 46, 3) := by decide +kernel
theorem dX4_canClaim_23 : decode cX4_canClaim 23 = .ok (.aload_n 0, 1) := by decide +kernel
theorem dX4_canClaim_24 : decode cX4_canClaim 24 = .ok (.getfield 21, 3) := by decide +kernel
theorem dX4_canClaim_27 : decode cX4_canClaim 27 = .ok (.getfield 93, 3) := by decide +kernel
theorem dX4_canClaim_30 : decode cX4_canClaim 30 = .ok (.if_icmp .ne 18, 3) := by decide +kernel
theorem dX4_canClaim_33 : decode cX4_canClaim 33 = .ok (.aload_n 0, 1) := by decide +kernel
theorem dX4_canClaim_34 : decode cX4_canClaim 34 = .ok (.getfield 21, 3) := by decide +kernel
theorem dX4_canClaim_37 : decode cX4_canClaim 37 = .ok (.iload_n 1, 1) := by decide +kernel
theorem dX4_canClaim_38 : decode cX4_canClaim 38 = .ok (.invokevirtual 96, 3) := by decide +kernel
theorem dX4_canClaim_41 : decode cX4_canClaim 41 = .ok (.ifCond .eq 7, 3) := by decide +kernel
theorem dX4_canClaim_44 : decode cX4_canClaim 44 = .ok (.iconst 1, 1) := by decide +kernel
theorem dX4_canClaim_45 : decode cX4_canClaim 45 = .ok (.goto 4, 3) := by decide +kernel
theorem dX4_canClaim_48 : decode cX4_canClaim 48 = .ok (.iconst 0, 1) := by decide +kernel
theorem dX4_canClaim_49 : decode cX4_canClaim 49 = .ok (.ireturn, 1) := by decide +kernel
set_option maxRecDepth 20000 in
theorem ggX5_init_X8_init : GoodIn wsX5_init wsX8_init := goodIn_r _ [16, 17, 2, 3, 18, 10, 19, 20, 21, 22, 23, 24, 25, 26, 27, 28] (by decide +kernel) (by decide +kernel)
set_option maxRecDepth 20000 in
theorem gX5_init_X8_init_n11 : GoodIn wsX5_init (wsX8_init) := ggX5_init_X8_init
theorem dX5_init_0 : decode cX5_init 0 = .ok (.aload_n 0, 1) := by decide +kernel
theorem dX5_init_1 : decode cX5_init 1 = .ok (.invokespecial 3, 3) := by decide +kernel
theorem dX5_init_4 : decode cX5_init 4 = .ok (.aload_n 0, 1) := by decide +kernel
theorem dX5_init_5 : decode cX5_init 5 = .ok (.new 9, 3) := by decide +kernel
theorem dX5_init_8 : decode cX5_init 8 = .ok (.dup, 1) := by decide +kernel
theorem dX5_init_9 : decode cX5_init 9 = .ok (.invokespecial 11, 3) := by decide +kernel
theorem dX5_init_12 : decode cX5_init 12 = .ok (.putfield 12, 3) := by decide +kernel
theorem dX5_init_15 : decode cX5_init 15 = .ok (.aload_n 0, 1) := by decide +kernel
theorem dX5_init_16 : decode cX5_init 16 = .ok (.iconst 4, 1) := by decide +kernel
theorem dX5_init_17 : decode cX5_init 17 = .ok (.newarray .long, 2) := by decide +kernel
theorem dX5_init_19 : decode cX5_init 19 = .ok (.putfield 18, 3) := by decide +kernel
theorem dX5_init_22 : decode cX5_init 22 = .ok (.aload_n 0, 1) := by decide +kernel
theorem dX5_init_23 : decode cX5_init 23 = .ok (.iconst 3, 1) := by decide +kernel
theorem dX5_init_24 : decode cX5_init 24 = .ok (.newarray .int, 2) := by decide +kernel
theorem dX5_init_26 : decode cX5_init 26 = .ok (.putfield 22, 3) := by decide +kernel
theorem dX5_init_29 : decode cX5_init 29 = .ok (.aload_n 0, 1) := by decide +kernel
theorem dX5_init_30 : decode cX5_init 30 = .ok (.iconst 0, 1) := by decide +kernel
theorem dX5_init_31 : decode cX5_init 31 = .ok (.putfield 26, 3) := by decide +kernel
theorem dX5_init_34 : decode cX5_init 34 = .ok (.aload_n 0, 1) := by decide +kernel
theorem dX5_init_35 : decode cX5_init 35 = .ok (.iconst 1, 1) := by decide +kernel
theorem dX5_init_36 : decode cX5_init 36 = .ok (.putfield 30, 3) := by decide +kernel
theorem dX5_init_39 : decode cX5_init 39 = .ok (.aload_n 0, 1) := by decide +kernel
theorem dX5_init_40 : decode cX5_init 40 = .ok (.aload_n 1, 1) := by decide +kernel
theorem dX5_init_41 : decode cX5_init 41 = .ok (.putfield 33, 3) := by decide +kernel
theorem dX5_init_44 : decode cX5_init 44 = .ok (.return_, 1) := by decide +kernel
set_option maxRecDepth 20000 in
theorem ggX5_begin_X8_begin : GoodIn wsX5_begin wsX8_begin := goodIn_r _ [8, 9, 10, 11, 12, 13, 14, 21, 22, 23, 24, 25, 26] (by decide +kernel) (by decide +kernel)
set_option maxRecDepth 20000 in
theorem gX5_begin_X8_begin : GoodIn wsX5_begin (wsV RX5 37 RX8 yX8_begin wsX8_begin) := goodIn_app (goodIn_of _ (by decide +kernel)) ggX5_begin_X8_begin
theorem dX5_begin_0 : decode cX5_begin 0 = .ok (.aload_n 0, 1) := by decide +kernel
theorem dX5_begin_1 : decode cX5_begin 1 = .ok (.iload_n 1, 1) := by decide +kernel
theorem dX5_begin_2 : decode cX5_begin 2 = .ok (.putfield 26, 3) := by decide +kernel
theorem dX5_begin_5 : decode cX5_begin 5 = .ok (.iload_n 1, 1) := by decide +kernel
theorem dX5_begin_6 : decode cX5_begin 6 = .ok (.tableswitch 58 1 3 #[26, 34, 50], 26) := by decide +kernel
theorem dX5_begin_32 : decode cX5_begin 32 = .ok (.aload_n 0, 1) := by decide +kernel
theorem dX5_begin_33 : decode cX5_begin 33 = .ok (.iconst 2, 1) := by decide +kernel
theorem dX5_begin_34 : decode cX5_begin 34 = .ok (.putfield 30, 3) := by decide +kernel
theorem dX5_begin_37 : decode cX5_begin 37 = .ok (.goto 32, 3) := by decide +kernel
theorem dX5_begin_40 : decode cX5_begin 40 = .ok (.aload_n 0, 1) := by decide +kernel
theorem dX5_begin_41 : decode cX5_begin 41 = .ok (.iload_n 2, 1) := by decide +kernel
theorem dX5_begin_42 : decode cX5_begin 42 = .ok (.putfield 30, 3) := by decide +kernel
theorem dX5_begin_45 : decode cX5_begin 45 = .ok (.aload_n 0, 1) := by decide +kernel
theorem dX5_begin_46 : decode cX5_begin 46 = .ok (.getfield 12, 3) := by decide +kernel
theorem dX5_begin_49 : decode cX5_begin 49 = .ok (.iload_n 2, 1) := by decide +kernel
theorem dX5_begin_50 : decode cX5_begin 50 = .ok (.invokevirtual 37, 3) := by decide +kernel
theorem dX5_begin_53 : decode cX5_begin 53 = .ok (.goto 16, 3) := by decide +kernel
theorem dX5_begin_56 : decode cX5_begin 56 = .ok (.aload_n 0, 1) := by decide +kernel
theorem dX5_begin_57 : decode cX5_begin 57 = .ok (.iload_n 2, 1) := by decide +kernel
theorem dX5_begin_58 : decode cX5_begin 58 = .ok (.putfield 30, 3) := by decide +kernel
theorem dX5_begin_61 : decode cX5_begin 61 = .ok (.goto 8, 3) := by decide +kernel
theorem dX5_begin_64 : decode cX5_begin 64 = .ok (.aload_n 0, 1) := by decide +kernel
theorem dX5_begin_65 : decode cX5_begin 65 = .ok (.iconst 1, 1) := by decide +kernel
theorem dX5_begin_66 : decode cX5_begin 66 = .ok (.putfield 30, 3) := by decide +kernel
theorem dX5_begin_69 : decode cX5_begin 69 = .ok (.return_, 1) := by decide +kernel
theorem dX5_hasSum_0 : decode cX5_hasSum 0 = .ok (.iload_n 1, 1) := by decide +kernel
theorem dX5_hasSum_1 : decode cX5_hasSum 1 = .ok (.ifCond .lt 15, 3) := by decide +kernel
theorem dX5_hasSum_4 : decode cX5_hasSum 4 = .ok (.iload_n 1, 1) := by decide +kernel
theorem dX5_hasSum_5 : decode cX5_hasSum 5 = .ok (.aload_n 0, 1) := by decide +kernel
theorem dX5_hasSum_6 : decode cX5_hasSum 6 = .ok (.getfield 30, 3) := by decide +kernel
theorem dX5_hasSum_9 : decode cX5_hasSum 9 = .ok (.if_icmp .ge 7, 3) := by decide +kernel
theorem dX5_hasSum_12 : decode cX5_hasSum 12 = .ok (.iconst 1, 1) := by decide +kernel
theorem dX5_hasSum_13 : decode cX5_hasSum 13 = .ok (.goto 4, 3) := by decide +kernel
theorem dX5_hasSum_16 : decode cX5_hasSum 16 = .ok (.iconst 0, 1) := by decide +kernel
theorem dX5_hasSum_17 : decode cX5_hasSum 17 = .ok (.ireturn, 1) := by decide +kernel
set_option maxRecDepth 20000 in
theorem ggX5_advance_X5_reckonTwo : GoodIn wsX5_advance wsX5_reckonTwo := goodIn_r _ [6, 7, 8, 9, 10, 11, 5, 12, 13, 14, 15, 16, 17, 18, 19, 20, 21, 22, 23, 24, 25, 26, 61, 62, 63, 64, 65, 66, 67, 68, 69] (by decide +kernel) (by decide +kernel)
set_option maxRecDepth 20000 in
theorem gX5_advance_X5_reckonTwo : GoodIn wsX5_advance (wsV RX5 41 RX5 yX5_reckonTwo wsX5_reckonTwo) := goodIn_app (goodIn_of _ (by decide +kernel)) ggX5_advance_X5_reckonTwo
set_option maxRecDepth 20000 in
theorem ggX5_advance_X5_reckonTables : GoodIn wsX5_advance wsX5_reckonTables := goodIn_r _ [30, 31, 32, 7, 33, 34, 35, 36, 37, 38, 39, 40, 9, 10, 11, 5, 12, 13, 14, 15, 16, 17, 18, 19, 20, 21, 22, 23, 24, 25, 26, 41, 42, 43, 44, 45, 46, 47, 61, 62, 63, 64, 65, 66, 70, 71, 72, 73, 74, 75, 67, 68, 69] (by decide +kernel) (by decide +kernel)
set_option maxRecDepth 20000 in
theorem gX5_advance_X5_reckonTables : GoodIn wsX5_advance (wsV RX5 45 RX5 yX5_reckonTables wsX5_reckonTables) := goodIn_app (goodIn_of _ (by decide +kernel)) ggX5_advance_X5_reckonTables
set_option maxRecDepth 20000 in
theorem ggX5_advance_X5_reckonRow : GoodIn wsX5_advance wsX5_reckonRow := goodIn_r _ [51, 32, 7, 9, 10, 11, 5, 12, 13, 14, 15, 16, 17, 18, 19, 20, 21, 22, 23, 24, 25, 26, 61, 62, 63, 64, 65, 66, 67, 68, 69] (by decide +kernel) (by decide +kernel)
set_option maxRecDepth 20000 in
theorem gX5_advance_X5_reckonRow : GoodIn wsX5_advance (wsV RX5 48 RX5 yX5_reckonRow wsX5_reckonRow) := goodIn_app (goodIn_of _ (by decide +kernel)) ggX5_advance_X5_reckonRow
set_option maxRecDepth 20000 in
theorem ggX5_advance_X5_settle : GoodIn wsX5_advance wsX5_settle := goodIn_r _ [55, 32, 7, 56, 57, 58, 59, 60, 61, 62, 63, 64, 65, 66] (by decide +kernel) (by decide +kernel)
set_option maxRecDepth 20000 in
theorem gX5_advance_X5_settle : GoodIn wsX5_advance (wsV RX5 51 RX5 yX5_settle wsX5_settle) := goodIn_app (goodIn_of _ (by decide +kernel)) ggX5_advance_X5_settle
theorem dX5_advance_0 : decode cX5_advance 0 = .ok (.aload_n 0, 1) := by decide +kernel
theorem dX5_advance_1 : decode cX5_advance 1 = .ok (.getfield 26, 3) := by decide +kernel
theorem dX5_advance_4 : decode cX5_advance 4 = .ok (.lookupswitch 46 #[(1, 28), (2, 37)], 28) := by decide +kernel
theorem dX5_advance_32 : decode cX5_advance 32 = .ok (.aload_n 0, 1) := by decide +kernel
theorem dX5_advance_33 : decode cX5_advance 33 = .ok (.aload_n 1, 1) := by decide +kernel
theorem dX5_advance_34 : decode cX5_advance 34 = .ok (.iload_n 2, 1) := by decide +kernel
theorem dX5_advance_35 : decode cX5_advance 35 = .ok (.invokevirtual 41, 3) := by decide +kernel
theorem dX5_advance_38 : decode cX5_advance 38 = .ok (.goto 18, 3) := by decide +kernel
theorem dX5_advance_41 : decode cX5_advance 41 = .ok (.aload_n 0, 1) := by decide +kernel
theorem dX5_advance_42 : decode cX5_advance 42 = .ok (.aload_n 1, 1) := by decide +kernel
theorem dX5_advance_43 : decode cX5_advance 43 = .ok (.iload_n 2, 1) := by decide +kernel
theorem dX5_advance_44 : decode cX5_advance 44 = .ok (.invokevirtual 45, 3) := by decide +kernel
theorem dX5_advance_47 : decode cX5_advance 47 = .ok (.goto 9, 3) := by decide +kernel
theorem dX5_advance_50 : decode cX5_advance 50 = .ok (.aload_n 0, 1) := by decide +kernel
theorem dX5_advance_51 : decode cX5_advance 51 = .ok (.aload_n 1, 1) := by decide +kernel
theorem dX5_advance_52 : decode cX5_advance 52 = .ok (.iload_n 2, 1) := by decide +kernel
theorem dX5_advance_53 : decode cX5_advance 53 = .ok (.invokevirtual 48, 3) := by decide +kernel
theorem dX5_advance_56 : decode cX5_advance 56 = .ok (.aload_n 0, 1) := by decide +kernel
theorem dX5_advance_57 : decode cX5_advance 57 = .ok (.aload_n 1, 1) := by decide +kernel
theorem dX5_advance_58 : decode cX5_advance 58 = .ok (.invokevirtual 51, 3) := by decide +kernel
theorem dX5_advance_61 : decode cX5_advance 61 = .ok (.ireturn, 1) := by decide +kernel
set_option maxRecDepth 20000 in
theorem ggX5_settle_X10_isSum : GoodIn wsX5_settle wsX10_isSum := goodIn_r _ [5, 6, 7] (by decide +kernel) (by decide +kernel)
set_option maxRecDepth 20000 in
theorem gX5_settle_X10_isSum_n55 : GoodIn wsX5_settle (wsX10_isSum) := ggX5_settle_X10_isSum
theorem dX5_settle_0 : decode cX5_settle 0 = .ok (.iconst 0, 1) := by decide +kernel
theorem dX5_settle_1 : decode cX5_settle 1 = .ok (.istore_n 2, 1) := by decide +kernel
theorem dX5_settle_2 : decode cX5_settle 2 = .ok (.iload_n 2, 1) := by decide +kernel
theorem dX5_settle_3 : decode cX5_settle 3 = .ok (.aload_n 0, 1) := by decide +kernel
theorem dX5_settle_4 : decode cX5_settle 4 = .ok (.getfield 30, 3) := by decide +kernel
theorem dX5_settle_7 : decode cX5_settle 7 = .ok (.if_icmp .ge 23, 3) := by decide +kernel
theorem dX5_settle_10 : decode cX5_settle 10 = .ok (.aload_n 0, 1) := by decide +kernel
theorem dX5_settle_11 : decode cX5_settle 11 = .ok (.getfield 18, 3) := by decide +kernel
theorem dX5_settle_14 : decode cX5_settle 14 = .ok (.iload_n 2, 1) := by decide +kernel
theorem dX5_settle_15 : decode cX5_settle 15 = .ok (.laload, 1) := by decide +kernel
theorem dX5_settle_16 : decode cX5_settle 16 = .ok (.invokestatic 55, 3) := by decide +kernel
theorem dX5_settle_19 : decode cX5_settle 19 = .ok (.ifCond .ne 5, 3) := by decide +kernel
theorem dX5_settle_22 : decode cX5_settle 22 = .ok (.iconst 0, 1) := by decide +kernel
theorem dX5_settle_23 : decode cX5_settle 23 = .ok (.ireturn, 1) := by decide +kernel
theorem dX5_settle_24 : decode cX5_settle 24 = .ok (.iinc 2 1, 3) := by decide +kernel
theorem dX5_settle_27 : decode cX5_settle 27 = .ok (.goto (-25), 3) := by decide +kernel
theorem dX5_settle_30 : decode cX5_settle 30 = .ok (.iconst 0, 1) := by decide +kernel
theorem dX5_settle_31 : decode cX5_settle 31 = .ok (.istore_n 2, 1) := by decide +kernel
theorem dX5_settle_32 : decode cX5_settle 32 = .ok (.iload_n 2, 1) := by decide +kernel
theorem dX5_settle_33 : decode cX5_settle 33 = .ok (.aload_n 0, 1) := by decide +kernel
theorem dX5_settle_34 : decode cX5_settle 34 = .ok (.getfield 30, 3) := by decide +kernel
theorem dX5_settle_37 : decode cX5_settle 37 = .ok (.if_icmp .ge 18, 3) := by decide +kernel
theorem dX5_settle_40 : decode cX5_settle 40 = .ok (.aload_n 1, 1) := by decide +kernel
theorem dX5_settle_41 : decode cX5_settle 41 = .ok (.iload_n 2, 1) := by decide +kernel
theorem dX5_settle_42 : decode cX5_settle 42 = .ok (.aload_n 0, 1) := by decide +kernel
theorem dX5_settle_43 : decode cX5_settle 43 = .ok (.getfield 18, 3) := by decide +kernel
theorem dX5_settle_46 : decode cX5_settle 46 = .ok (.iload_n 2, 1) := by decide +kernel
theorem dX5_settle_47 : decode cX5_settle 47 = .ok (.laload, 1) := by decide +kernel
theorem dX5_settle_48 : decode cX5_settle 48 = .ok (.lastore, 1) := by decide +kernel
theorem dX5_settle_49 : decode cX5_settle 49 = .ok (.iinc 2 1, 3) := by decide +kernel
theorem dX5_settle_52 : decode cX5_settle 52 = .ok (.goto (-20), 3) := by decide +kernel
theorem dX5_settle_55 : decode cX5_settle 55 = .ok (.iconst 1, 1) := by decide +kernel
theorem dX5_settle_56 : decode cX5_settle 56 = .ok (.ireturn, 1) := by decide +kernel
set_option maxRecDepth 20000 in
theorem ggX5_reckonTwo_X5_takeStep : GoodIn wsX5_reckonTwo wsX5_takeStep := goodIn_r _ [7, 8, 9, 10, 11, 12, 13, 14, 15, 16, 17, 18, 19, 20, 21, 22, 23, 24, 25, 26, 27, 28, 29, 30] (by decide +kernel) (by decide +kernel)
set_option maxRecDepth 20000 in
theorem gX5_reckonTwo_X5_takeStep : GoodIn wsX5_reckonTwo (wsV RX5 61 RX5 yX5_takeStep wsX5_takeStep) := goodIn_app (goodIn_of _ (by decide +kernel)) ggX5_reckonTwo_X5_takeStep
theorem dX5_reckonTwo_0 : decode cX5_reckonTwo 0 = .ok (.aload_n 0, 1) := by decide +kernel
theorem dX5_reckonTwo_1 : decode cX5_reckonTwo 1 = .ok (.getfield 18, 3) := by decide +kernel
theorem dX5_reckonTwo_4 : decode cX5_reckonTwo 4 = .ok (.iconst 0, 1) := by decide +kernel
theorem dX5_reckonTwo_5 : decode cX5_reckonTwo 5 = .ok (.aload_n 0, 1) := by decide +kernel
theorem dX5_reckonTwo_6 : decode cX5_reckonTwo 6 = .ok (.iconst 0, 1) := by decide +kernel
theorem dX5_reckonTwo_7 : decode cX5_reckonTwo 7 = .ok (.iload_n 2, 1) := by decide +kernel
theorem dX5_reckonTwo_8 : decode cX5_reckonTwo 8 = .ok (.i2l, 1) := by decide +kernel
theorem dX5_reckonTwo_9 : decode cX5_reckonTwo 9 = .ok (.ldc2_w 59, 3) := by decide +kernel
theorem dX5_reckonTwo_12 : decode cX5_reckonTwo 12 = .ok (.aload_n 1, 1) := by decide +kernel
theorem dX5_reckonTwo_13 : decode cX5_reckonTwo 13 = .ok (.iconst 0, 1) := by decide +kernel
theorem dX5_reckonTwo_14 : decode cX5_reckonTwo 14 = .ok (.laload, 1) := by decide +kernel
theorem dX5_reckonTwo_15 : decode cX5_reckonTwo 15 = .ok (.lmul, 1) := by decide +kernel
theorem dX5_reckonTwo_16 : decode cX5_reckonTwo 16 = .ok (.ladd, 1) := by decide +kernel
theorem dX5_reckonTwo_17 : decode cX5_reckonTwo 17 = .ok (.aload_n 1, 1) := by decide +kernel
theorem dX5_reckonTwo_18 : decode cX5_reckonTwo 18 = .ok (.iconst 1, 1) := by decide +kernel
theorem dX5_reckonTwo_19 : decode cX5_reckonTwo 19 = .ok (.laload, 1) := by decide +kernel
theorem dX5_reckonTwo_20 : decode cX5_reckonTwo 20 = .ok (.lsub, 1) := by decide +kernel
theorem dX5_reckonTwo_21 : decode cX5_reckonTwo 21 = .ok (.invokevirtual 61, 3) := by decide +kernel
theorem dX5_reckonTwo_24 : decode cX5_reckonTwo 24 = .ok (.lastore, 1) := by decide +kernel
theorem dX5_reckonTwo_25 : decode cX5_reckonTwo 25 = .ok (.aload_n 0, 1) := by decide +kernel
theorem dX5_reckonTwo_26 : decode cX5_reckonTwo 26 = .ok (.getfield 18, 3) := by decide +kernel
theorem dX5_reckonTwo_29 : decode cX5_reckonTwo 29 = .ok (.iconst 1, 1) := by decide +kernel
theorem dX5_reckonTwo_30 : decode cX5_reckonTwo 30 = .ok (.aload_n 1, 1) := by decide +kernel
theorem dX5_reckonTwo_31 : decode cX5_reckonTwo 31 = .ok (.iconst 0, 1) := by decide +kernel
theorem dX5_reckonTwo_32 : decode cX5_reckonTwo 32 = .ok (.laload, 1) := by decide +kernel
theorem dX5_reckonTwo_33 : decode cX5_reckonTwo 33 = .ok (.lastore, 1) := by decide +kernel
theorem dX5_reckonTwo_34 : decode cX5_reckonTwo 34 = .ok (.return_, 1) := by decide +kernel
set_option maxRecDepth 20000 in
theorem ggX5_reckonTables_X8_measure : GoodIn wsX5_reckonTables wsX8_measure := goodIn_r _ [8, 9, 10, 11, 44, 45, 46, 47, 48, 49] (by decide +kernel) (by decide +kernel)
set_option maxRecDepth 20000 in
theorem gX5_reckonTables_X8_measure : GoodIn wsX5_reckonTables (wsV RX5 65 RX8 yX8_measure wsX8_measure) := goodIn_app (goodIn_of _ (by decide +kernel)) ggX5_reckonTables_X8_measure
set_option maxRecDepth 20000 in
theorem ggX5_reckonTables_X5_takeStep : GoodIn wsX5_reckonTables wsX5_takeStep := goodIn_r _ [16, 17, 18, 19, 20, 21, 22, 23, 24, 25, 26, 27, 28, 29, 30, 38, 39, 40, 41, 42, 43, 50, 51, 52] (by decide +kernel) (by decide +kernel)
set_option maxRecDepth 20000 in
theorem gX5_reckonTables_X5_takeStep : GoodIn wsX5_reckonTables (wsV RX5 61 RX5 yX5_takeStep wsX5_takeStep) := goodIn_app (goodIn_of _ (by decide +kernel)) ggX5_reckonTables_X5_takeStep
set_option maxRecDepth 20000 in
theorem ggX5_reckonTables_X8_next : GoodIn wsX5_reckonTables wsX8_next := goodIn_r _ [34, 35, 36, 10, 37, 44, 45, 46, 47, 48, 49] (by decide +kernel) (by decide +kernel)
set_option maxRecDepth 20000 in
theorem gX5_reckonTables_X8_next : GoodIn wsX5_reckonTables (wsV RX5 69 RX8 yX8_next wsX8_next) := goodIn_app (goodIn_of _ (by decide +kernel)) ggX5_reckonTables_X8_next
theorem dX5_reckonTables_0 : decode cX5_reckonTables 0 = .ok (.aload_n 0, 1) := by decide +kernel
theorem dX5_reckonTables_1 : decode cX5_reckonTables 1 = .ok (.getfield 12, 3) := by decide +kernel
theorem dX5_reckonTables_4 : decode cX5_reckonTables 4 = .ok (.aload_n 1, 1) := by decide +kernel
theorem dX5_reckonTables_5 : decode cX5_reckonTables 5 = .ok (.iload_n 2, 1) := by decide +kernel
theorem dX5_reckonTables_6 : decode cX5_reckonTables 6 = .ok (.invokevirtual 65, 3) := by decide +kernel
theorem dX5_reckonTables_9 : decode cX5_reckonTables 9 = .ok (.lstore_n 3, 1) := by decide +kernel
theorem dX5_reckonTables_10 : decode cX5_reckonTables 10 = .ok (.lload_n 3, 1) := by decide +kernel
theorem dX5_reckonTables_11 : decode cX5_reckonTables 11 = .ok (.aload_n 0, 1) := by decide +kernel
theorem dX5_reckonTables_12 : decode cX5_reckonTables 12 = .ok (.iconst 0, 1) := by decide +kernel
theorem dX5_reckonTables_13 : decode cX5_reckonTables 13 = .ok (.lload_n 3, 1) := by decide +kernel
theorem dX5_reckonTables_14 : decode cX5_reckonTables 14 = .ok (.invokevirtual 61, 3) := by decide +kernel
theorem dX5_reckonTables_17 : decode cX5_reckonTables 17 = .ok (.lsub, 1) := by decide +kernel
theorem dX5_reckonTables_18 : decode cX5_reckonTables 18 = .ok (.lstore 5, 2) := by decide +kernel
theorem dX5_reckonTables_20 : decode cX5_reckonTables 20 = .ok (.iconst 0, 1) := by decide +kernel
theorem dX5_reckonTables_21 : decode cX5_reckonTables 21 = .ok (.istore 7, 2) := by decide +kernel
theorem dX5_reckonTables_23 : decode cX5_reckonTables 23 = .ok (.iload 7, 2) := by decide +kernel
theorem dX5_reckonTables_25 : decode cX5_reckonTables 25 = .ok (.aload_n 0, 1) := by decide +kernel
theorem dX5_reckonTables_26 : decode cX5_reckonTables 26 = .ok (.getfield 30, 3) := by decide +kernel
theorem dX5_reckonTables_29 : decode cX5_reckonTables 29 = .ok (.if_icmp .ge 29, 3) := by decide +kernel
theorem dX5_reckonTables_32 : decode cX5_reckonTables 32 = .ok (.aload_n 0, 1) := by decide +kernel
theorem dX5_reckonTables_33 : decode cX5_reckonTables 33 = .ok (.getfield 18, 3) := by decide +kernel
theorem dX5_reckonTables_36 : decode cX5_reckonTables 36 = .ok (.iload 7, 2) := by decide +kernel
theorem dX5_reckonTables_38 : decode cX5_reckonTables 38 = .ok (.aload_n 0, 1) := by decide +kernel
theorem dX5_reckonTables_39 : decode cX5_reckonTables 39 = .ok (.getfield 12, 3) := by decide +kernel
theorem dX5_reckonTables_42 : decode cX5_reckonTables 42 = .ok (.iload 7, 2) := by decide +kernel
theorem dX5_reckonTables_44 : decode cX5_reckonTables 44 = .ok (.aload_n 1, 1) := by decide +kernel
theorem dX5_reckonTables_45 : decode cX5_reckonTables 45 = .ok (.iload_n 2, 1) := by decide +kernel
theorem dX5_reckonTables_46 : decode cX5_reckonTables 46 = .ok (.lload 5, 2) := by decide +kernel
theorem dX5_reckonTables_48 : decode cX5_reckonTables 48 = .ok (.invokevirtual 69, 3) := by decide +kernel
theorem dX5_reckonTables_51 : decode cX5_reckonTables 51 = .ok (.lastore, 1) := by decide +kernel
theorem dX5_reckonTables_52 : decode cX5_reckonTables 52 = .ok (.iinc 7 1, 3) := by decide +kernel
theorem dX5_reckonTables_55 : decode cX5_reckonTables 55 = .ok (.goto (-32), 3) := by decide +kernel
theorem dX5_reckonTables_58 : decode cX5_reckonTables 58 = .ok (.return_, 1) := by decide +kernel
set_option maxRecDepth 20000 in
theorem ggX5_reckonRow_X5_takeStep : GoodIn wsX5_reckonRow wsX5_takeStep := goodIn_r _ [7, 8, 9, 10, 11, 12, 13, 14, 15, 16, 17, 18, 19, 20, 21, 22, 23, 24, 25, 26, 27, 28, 29, 30] (by decide +kernel) (by decide +kernel)
set_option maxRecDepth 20000 in
theorem gX5_reckonRow_X5_takeStep : GoodIn wsX5_reckonRow (wsV RX5 61 RX5 yX5_takeStep wsX5_takeStep) := goodIn_app (goodIn_of _ (by decide +kernel)) ggX5_reckonRow_X5_takeStep
theorem dX5_reckonRow_0 : decode cX5_reckonRow 0 = .ok (.iload_n 2, 1) := by decide +kernel
theorem dX5_reckonRow_1 : decode cX5_reckonRow 1 = .ok (.i2l, 1) := by decide +kernel
theorem dX5_reckonRow_2 : decode cX5_reckonRow 2 = .ok (.lstore_n 3, 1) := by decide +kernel
theorem dX5_reckonRow_3 : decode cX5_reckonRow 3 = .ok (.iconst 0, 1) := by decide +kernel
theorem dX5_reckonRow_4 : decode cX5_reckonRow 4 = .ok (.istore 5, 2) := by decide +kernel
theorem dX5_reckonRow_6 : decode cX5_reckonRow 6 = .ok (.iload 5, 2) := by decide +kernel
theorem dX5_reckonRow_8 : decode cX5_reckonRow 8 = .ok (.aload_n 0, 1) := by decide +kernel
theorem dX5_reckonRow_9 : decode cX5_reckonRow 9 = .ok (.getfield 30, 3) := by decide +kernel
theorem dX5_reckonRow_12 : decode cX5_reckonRow 12 = .ok (.if_icmp .ge 36, 3) := by decide +kernel
theorem dX5_reckonRow_15 : decode cX5_reckonRow 15 = .ok (.iload 5, 2) := by decide +kernel
theorem dX5_reckonRow_17 : decode cX5_reckonRow 17 = .ok (.iconst 3, 1) := by decide +kernel
theorem dX5_reckonRow_18 : decode cX5_reckonRow 18 = .ok (.if_icmp .ge 30, 3) := by decide +kernel
theorem dX5_reckonRow_21 : decode cX5_reckonRow 21 = .ok (.aload_n 0, 1) := by decide +kernel
theorem dX5_reckonRow_22 : decode cX5_reckonRow 22 = .ok (.iload 5, 2) := by decide +kernel
theorem dX5_reckonRow_24 : decode cX5_reckonRow 24 = .ok (.aload_n 1, 1) := by decide +kernel
theorem dX5_reckonRow_25 : decode cX5_reckonRow 25 = .ok (.iload 5, 2) := by decide +kernel
theorem dX5_reckonRow_27 : decode cX5_reckonRow 27 = .ok (.laload, 1) := by decide +kernel
theorem dX5_reckonRow_28 : decode cX5_reckonRow 28 = .ok (.lload_n 3, 1) := by decide +kernel
theorem dX5_reckonRow_29 : decode cX5_reckonRow 29 = .ok (.ladd, 1) := by decide +kernel
theorem dX5_reckonRow_30 : decode cX5_reckonRow 30 = .ok (.invokevirtual 61, 3) := by decide +kernel
theorem dX5_reckonRow_33 : decode cX5_reckonRow 33 = .ok (.lstore_n 3, 1) := by decide +kernel
theorem dX5_reckonRow_34 : decode cX5_reckonRow 34 = .ok (.aload_n 0, 1) := by decide +kernel
theorem dX5_reckonRow_35 : decode cX5_reckonRow 35 = .ok (.getfield 18, 3) := by decide +kernel
theorem dX5_reckonRow_38 : decode cX5_reckonRow 38 = .ok (.iload 5, 2) := by decide +kernel
theorem dX5_reckonRow_40 : decode cX5_reckonRow 40 = .ok (.lload_n 3, 1) := by decide +kernel
theorem dX5_reckonRow_41 : decode cX5_reckonRow 41 = .ok (.lastore, 1) := by decide +kernel
theorem dX5_reckonRow_42 : decode cX5_reckonRow 42 = .ok (.iinc 5 1, 3) := by decide +kernel
theorem dX5_reckonRow_45 : decode cX5_reckonRow 45 = .ok (.goto (-39), 3) := by decide +kernel
theorem dX5_reckonRow_48 : decode cX5_reckonRow 48 = .ok (.return_, 1) := by decide +kernel
set_option maxRecDepth 20000 in
theorem ggX5_takeStep_X7_placeFor : GoodIn wsX5_takeStep wsX7_placeFor := goodIn_r _ [7, 8, 9, 10, 21, 22, 23] (by decide +kernel) (by decide +kernel)
set_option maxRecDepth 20000 in
theorem gX5_takeStep_X7_placeFor : GoodIn wsX5_takeStep (wsV RX5 73 RX7 yX7_placeFor wsX7_placeFor) := goodIn_app (goodIn_of _ (by decide +kernel)) ggX5_takeStep_X7_placeFor
set_option maxRecDepth 20000 in
theorem ggX5_takeStep_X7_fineAt : GoodIn wsX5_takeStep wsX7_fineAt := goodIn_r _ [14, 9, 10, 21, 22, 23] (by decide +kernel) (by decide +kernel)
set_option maxRecDepth 20000 in
theorem gX5_takeStep_X7_fineAt : GoodIn wsX5_takeStep (wsV RX5 82 RX7 yX7_fineAt wsX7_fineAt) := goodIn_app (goodIn_of _ (by decide +kernel)) ggX5_takeStep_X7_fineAt
theorem dX5_takeStep_0 : decode cX5_takeStep 0 = .ok (.aload_n 0, 1) := by decide +kernel
theorem dX5_takeStep_1 : decode cX5_takeStep 1 = .ok (.getfield 33, 3) := by decide +kernel
theorem dX5_takeStep_4 : decode cX5_takeStep 4 = .ok (.lload_n 2, 1) := by decide +kernel
theorem dX5_takeStep_5 : decode cX5_takeStep 5 = .ok (.invokevirtual 73, 3) := by decide +kernel
theorem dX5_takeStep_8 : decode cX5_takeStep 8 = .ok (.istore 4, 2) := by decide +kernel
theorem dX5_takeStep_10 : decode cX5_takeStep 10 = .ok (.aload_n 0, 1) := by decide +kernel
theorem dX5_takeStep_11 : decode cX5_takeStep 11 = .ok (.getfield 22, 3) := by decide +kernel
theorem dX5_takeStep_14 : decode cX5_takeStep 14 = .ok (.iload_n 1, 1) := by decide +kernel
theorem dX5_takeStep_15 : decode cX5_takeStep 15 = .ok (.aload_n 0, 1) := by decide +kernel
theorem dX5_takeStep_16 : decode cX5_takeStep 16 = .ok (.getfield 33, 3) := by decide +kernel
theorem dX5_takeStep_19 : decode cX5_takeStep 19 = .ok (.getfield 79, 3) := by decide +kernel
theorem dX5_takeStep_22 : decode cX5_takeStep 22 = .ok (.iload 4, 2) := by decide +kernel
theorem dX5_takeStep_24 : decode cX5_takeStep 24 = .ok (.iaload, 1) := by decide +kernel
theorem dX5_takeStep_25 : decode cX5_takeStep 25 = .ok (.iastore, 1) := by decide +kernel
theorem dX5_takeStep_26 : decode cX5_takeStep 26 = .ok (.lload_n 2, 1) := by decide +kernel
theorem dX5_takeStep_27 : decode cX5_takeStep 27 = .ok (.aload_n 0, 1) := by decide +kernel
theorem dX5_takeStep_28 : decode cX5_takeStep 28 = .ok (.getfield 33, 3) := by decide +kernel
theorem dX5_takeStep_31 : decode cX5_takeStep 31 = .ok (.iload 4, 2) := by decide +kernel
theorem dX5_takeStep_33 : decode cX5_takeStep 33 = .ok (.invokevirtual 82, 3) := by decide +kernel
theorem dX5_takeStep_36 : decode cX5_takeStep 36 = .ok (.lsub, 1) := by decide +kernel
theorem dX5_takeStep_37 : decode cX5_takeStep 37 = .ok (.lreturn, 1) := by decide +kernel
theorem dX6_init_0 : decode cX6_init 0 = .ok (.aload_n 0, 1) := by decide +kernel
theorem dX6_init_1 : decode cX6_init 1 = .ok (.invokespecial 3, 3) := by decide +kernel
theorem dX6_init_4 : decode cX6_init 4 = .ok (.aload_n 0, 1) := by decide +kernel
theorem dX6_init_5 : decode cX6_init 5 = .ok (.iconst 4, 1) := by decide +kernel
theorem dX6_init_6 : decode cX6_init 6 = .ok (.newarray .long, 2) := by decide +kernel
theorem dX6_init_8 : decode cX6_init 8 = .ok (.putfield 9, 3) := by decide +kernel
theorem dX6_init_11 : decode cX6_init 11 = .ok (.aload_n 0, 1) := by decide +kernel
theorem dX6_init_12 : decode cX6_init 12 = .ok (.iconst 4, 1) := by decide +kernel
theorem dX6_init_13 : decode cX6_init 13 = .ok (.newarray .long, 2) := by decide +kernel
theorem dX6_init_15 : decode cX6_init 15 = .ok (.putfield 15, 3) := by decide +kernel
theorem dX6_init_18 : decode cX6_init 18 = .ok (.aload_n 0, 1) := by decide +kernel
theorem dX6_init_19 : decode cX6_init 19 = .ok (.aload_n 1, 1) := by decide +kernel
theorem dX6_init_20 : decode cX6_init 20 = .ok (.putfield 18, 3) := by decide +kernel
theorem dX6_init_23 : decode cX6_init 23 = .ok (.return_, 1) := by decide +kernel
set_option maxRecDepth 20000 in
theorem ggX6_findRing_X6_findBeat : GoodIn wsX6_findRing wsX6_findBeat := goodIn_r _ [6, 7, 8, 9, 10, 11, 5, 12, 13, 14, 15, 16, 17, 18, 19, 20, 21, 22, 23, 24, 25, 26, 27, 28, 29, 30, 31, 32, 33, 34, 35, 36, 37, 38, 39, 40, 41, 42, 43, 44, 45, 46, 47, 48, 49, 50, 51, 52, 53, 54, 55, 56, 57, 58, 59, 60, 61, 62, 63, 64, 65, 66, 67, 68, 69, 70, 71, 72, 73, 74, 75, 76, 77, 78, 79, 80, 85, 86, 87, 88, 89, 90, 91, 92, 93, 94, 95, 96, 97, 98, 99, 100, 101, 102, 103, 104, 105, 106, 107, 108, 109, 110, 111, 112] (by decide +kernel) (by decide +kernel)
set_option maxRecDepth 20000 in
theorem gX6_findRing_X6_findBeat : GoodIn wsX6_findRing (wsV RX6 22 RX6 yX6_findBeat wsX6_findBeat) := goodIn_app (goodIn_of _ (by decide +kernel)) ggX6_findRing_X6_findBeat
set_option maxRecDepth 20000 in
theorem ggX6_findRing_X6_findTail : GoodIn wsX6_findRing wsX6_findTail := goodIn_r _ [84, 7, 8, 9, 10, 11, 5, 12, 13, 14, 15, 16, 17, 18, 19, 20, 21, 22, 23, 24, 25, 26, 27, 28, 29, 30, 31, 32, 33, 34, 35, 36, 37, 38, 39, 40, 41, 42, 43, 44, 45, 46, 47, 48, 49, 50, 51, 52, 53, 54, 55, 56, 57, 58, 59, 60, 61, 62, 63, 64, 65, 66, 67, 68, 69, 70, 71, 72, 73, 74, 75, 76, 77, 78, 79, 80, 85, 86, 87, 88, 89, 90, 91, 92, 93, 94, 95, 96, 97, 98, 99, 100, 101, 102, 103, 104, 105, 106, 107, 108, 109, 110, 111, 112] (by decide +kernel) (by decide +kernel)
set_option maxRecDepth 20000 in
theorem gX6_findRing_X6_findTail : GoodIn wsX6_findRing (wsV RX6 26 RX6 yX6_findTail wsX6_findTail) := goodIn_app (goodIn_of _ (by decide +kernel)) ggX6_findRing_X6_findTail
theorem dX6_findRing_0 : decode cX6_findRing 0 = .ok (.aload_n 0, 1) := by decide +kernel
theorem dX6_findRing_1 : decode cX6_findRing 1 = .ok (.iload_n 1, 1) := by decide +kernel
theorem dX6_findRing_2 : decode cX6_findRing 2 = .ok (.invokevirtual 22, 3) := by decide +kernel
theorem dX6_findRing_5 : decode cX6_findRing 5 = .ok (.istore_n 2, 1) := by decide +kernel
theorem dX6_findRing_6 : decode cX6_findRing 6 = .ok (.iload_n 2, 1) := by decide +kernel
theorem dX6_findRing_7 : decode cX6_findRing 7 = .ok (.ifCond .ge 5, 3) := by decide +kernel
theorem dX6_findRing_10 : decode cX6_findRing 10 = .ok (.iload_n 2, 1) := by decide +kernel
theorem dX6_findRing_11 : decode cX6_findRing 11 = .ok (.ireturn, 1) := by decide +kernel
theorem dX6_findRing_12 : decode cX6_findRing 12 = .ok (.aload_n 0, 1) := by decide +kernel
theorem dX6_findRing_13 : decode cX6_findRing 13 = .ok (.iload_n 1, 1) := by decide +kernel
theorem dX6_findRing_14 : decode cX6_findRing 14 = .ok (.iload_n 2, 1) := by decide +kernel
theorem dX6_findRing_15 : decode cX6_findRing 15 = .ok (.invokevirtual 26, 3) := by decide +kernel
theorem dX6_findRing_18 : decode cX6_findRing 18 = .ok (.istore_n 3, 1) := by decide +kernel
theorem dX6_findRing_19 : decode cX6_findRing 19 = .ok (.iload_n 3, 1) := by decide +kernel
theorem dX6_findRing_20 : decode cX6_findRing 20 = .ok (.ifCond .ge 6, 3) := by decide +kernel
theorem dX6_findRing_23 : decode cX6_findRing 23 = .ok (.bipush (-2), 2) := by decide +kernel
theorem dX6_findRing_25 : decode cX6_findRing 25 = .ok (.ireturn, 1) := by decide +kernel
theorem dX6_findRing_26 : decode cX6_findRing 26 = .ok (.aload_n 0, 1) := by decide +kernel
theorem dX6_findRing_27 : decode cX6_findRing 27 = .ok (.iload_n 3, 1) := by decide +kernel
theorem dX6_findRing_28 : decode cX6_findRing 28 = .ok (.putfield 30, 3) := by decide +kernel
theorem dX6_findRing_31 : decode cX6_findRing 31 = .ok (.iload_n 2, 1) := by decide +kernel
theorem dX6_findRing_32 : decode cX6_findRing 32 = .ok (.ireturn, 1) := by decide +kernel
set_option maxRecDepth 20000 in
theorem ggX6_findBeat_X6_copy : GoodIn wsX6_findBeat wsX6_copy := goodIn_r _ [7] (by decide +kernel) (by decide +kernel)
set_option maxRecDepth 20000 in
theorem gX6_findBeat_X6_copy : GoodIn wsX6_findBeat (va_wsS RX6 39 yX6_copy wsX6_copy) := goodIn_app (goodIn_of _ (by decide +kernel)) ggX6_findBeat_X6_copy
set_option maxRecDepth 20000 in
theorem ggX6_findBeat_X5_advance : GoodIn wsX6_findBeat wsX5_advance := goodIn_r _ [12, 13, 14, 15, 16, 11, 17, 18, 19, 20, 21, 22, 23, 24, 25, 26, 27, 28, 29, 30, 31, 32, 33, 34, 35, 36, 37, 38, 39, 40, 41, 42, 43, 44, 45, 46, 47, 48, 49, 50, 51, 52, 53, 54, 55, 56, 57, 58, 59, 60, 61, 62, 63, 64, 65, 66, 67, 68, 69, 70, 71, 89, 90, 91, 92, 93, 94, 95, 96, 97, 98, 99, 100, 101, 102, 103] (by decide +kernel) (by decide +kernel)
set_option maxRecDepth 20000 in
theorem gX6_findBeat_X5_advance : GoodIn wsX6_findBeat (wsV RX6 47 RX5 yX5_advance wsX5_advance) := goodIn_app (goodIn_of _ (by decide +kernel)) ggX6_findBeat_X5_advance
set_option maxRecDepth 20000 in
theorem ggX6_findBeat_X6_isSame : GoodIn wsX6_findBeat wsX6_isSame := goodIn_r _ [75, 1, 76, 77, 78, 79, 80, 81, 82, 83, 84, 85, 86, 87, 88, 89, 90, 91, 92, 93, 94] (by decide +kernel) (by decide +kernel)
set_option maxRecDepth 20000 in
theorem gX6_findBeat_X6_isSame : GoodIn wsX6_findBeat (wsV RX6 53 RX6 yX6_isSame wsX6_isSame) := goodIn_app (goodIn_of _ (by decide +kernel)) ggX6_findBeat_X6_isSame
theorem dX6_findBeat_0 : decode cX6_findBeat 0 = .ok (.aload_n 0, 1) := by decide +kernel
theorem dX6_findBeat_1 : decode cX6_findBeat 1 = .ok (.getfield 18, 3) := by decide +kernel
theorem dX6_findBeat_4 : decode cX6_findBeat 4 = .ok (.getfield 34, 3) := by decide +kernel
theorem dX6_findBeat_7 : decode cX6_findBeat 7 = .ok (.aload_n 0, 1) := by decide +kernel
theorem dX6_findBeat_8 : decode cX6_findBeat 8 = .ok (.getfield 9, 3) := by decide +kernel
theorem dX6_findBeat_11 : decode cX6_findBeat 11 = .ok (.invokestatic 39, 3) := by decide +kernel
theorem dX6_findBeat_14 : decode cX6_findBeat 14 = .ok (.aload_n 0, 1) := by decide +kernel
theorem dX6_findBeat_15 : decode cX6_findBeat 15 = .ok (.getfield 9, 3) := by decide +kernel
theorem dX6_findBeat_18 : decode cX6_findBeat 18 = .ok (.aload_n 0, 1) := by decide +kernel
theorem dX6_findBeat_19 : decode cX6_findBeat 19 = .ok (.getfield 15, 3) := by decide +kernel
theorem dX6_findBeat_22 : decode cX6_findBeat 22 = .ok (.invokestatic 39, 3) := by decide +kernel
theorem dX6_findBeat_25 : decode cX6_findBeat 25 = .ok (.iconst 1, 1) := by decide +kernel
theorem dX6_findBeat_26 : decode cX6_findBeat 26 = .ok (.istore_n 2, 1) := by decide +kernel
theorem dX6_findBeat_27 : decode cX6_findBeat 27 = .ok (.iconst 0, 1) := by decide +kernel
theorem dX6_findBeat_28 : decode cX6_findBeat 28 = .ok (.istore_n 3, 1) := by decide +kernel
theorem dX6_findBeat_29 : decode cX6_findBeat 29 = .ok (.iconst 1, 1) := by decide +kernel
theorem dX6_findBeat_30 : decode cX6_findBeat 30 = .ok (.istore 4, 2) := by decide +kernel
theorem dX6_findBeat_32 : decode cX6_findBeat 32 = .ok (.iload 4, 2) := by decide +kernel
theorem dX6_findBeat_34 : decode cX6_findBeat 34 = .ok (.sipush 8192, 3) := by decide +kernel
theorem dX6_findBeat_37 : decode cX6_findBeat 37 = .ok (.if_icmp .ge 85, 3) := by decide +kernel
theorem dX6_findBeat_40 : decode cX6_findBeat 40 = .ok (.aload_n 0, 1) := by decide +kernel
theorem dX6_findBeat_41 : decode cX6_findBeat 41 = .ok (.getfield 18, 3) := by decide +kernel
theorem dX6_findBeat_44 : decode cX6_findBeat 44 = .ok (.getfield 43, 3) := by decide +kernel
theorem dX6_findBeat_47 : decode cX6_findBeat 47 = .ok (.aload_n 0, 1) := by decide +kernel
theorem dX6_findBeat_48 : decode cX6_findBeat 48 = .ok (.getfield 9, 3) := by decide +kernel
theorem dX6_findBeat_51 : decode cX6_findBeat 51 = .ok (.iload_n 1, 1) := by decide +kernel
theorem dX6_findBeat_52 : decode cX6_findBeat 52 = .ok (.invokevirtual 47, 3) := by decide +kernel
theorem dX6_findBeat_55 : decode cX6_findBeat 55 = .ok (.ifCond .ne 19, 3) := by decide +kernel
theorem dX6_findBeat_58 : decode cX6_findBeat 58 = .ok (.iload 4, 2) := by decide +kernel
theorem dX6_findBeat_60 : decode cX6_findBeat 60 = .ok (.sipush 4096, 3) := by decide +kernel
theorem dX6_findBeat_63 : decode cX6_findBeat 63 = .ok (.if_icmp .gt 8, 3) := by decide +kernel
theorem dX6_findBeat_66 : decode cX6_findBeat 66 = .ok (.bipush (-3), 2) := by decide +kernel
theorem dX6_findBeat_68 : decode cX6_findBeat 68 = .ok (.goto 5, 3) := by decide +kernel
theorem dX6_findBeat_71 : decode cX6_findBeat 71 = .ok (.bipush (-2), 2) := by decide +kernel
theorem dX6_findBeat_73 : decode cX6_findBeat 73 = .ok (.ireturn, 1) := by decide +kernel
theorem dX6_findBeat_74 : decode cX6_findBeat 74 = .ok (.iinc 3 1, 3) := by decide +kernel
theorem dX6_findBeat_77 : decode cX6_findBeat 77 = .ok (.aload_n 0, 1) := by decide +kernel
theorem dX6_findBeat_78 : decode cX6_findBeat 78 = .ok (.aload_n 0, 1) := by decide +kernel
theorem dX6_findBeat_79 : decode cX6_findBeat 79 = .ok (.getfield 9, 3) := by decide +kernel
theorem dX6_findBeat_82 : decode cX6_findBeat 82 = .ok (.aload_n 0, 1) := by decide +kernel
theorem dX6_findBeat_83 : decode cX6_findBeat 83 = .ok (.getfield 15, 3) := by decide +kernel
theorem dX6_findBeat_86 : decode cX6_findBeat 86 = .ok (.invokevirtual 53, 3) := by decide +kernel
theorem dX6_findBeat_89 : decode cX6_findBeat 89 = .ok (.ifCond .eq 5, 3) := by decide +kernel
theorem dX6_findBeat_92 : decode cX6_findBeat 92 = .ok (.iload_n 3, 1) := by decide +kernel
theorem dX6_findBeat_93 : decode cX6_findBeat 93 = .ok (.ireturn, 1) := by decide +kernel
theorem dX6_findBeat_94 : decode cX6_findBeat 94 = .ok (.iload_n 3, 1) := by decide +kernel
theorem dX6_findBeat_95 : decode cX6_findBeat 95 = .ok (.iload_n 2, 1) := by decide +kernel
theorem dX6_findBeat_96 : decode cX6_findBeat 96 = .ok (.if_icmp .ne 20, 3) := by decide +kernel
theorem dX6_findBeat_99 : decode cX6_findBeat 99 = .ok (.aload_n 0, 1) := by decide +kernel
theorem dX6_findBeat_100 : decode cX6_findBeat 100 = .ok (.getfield 9, 3) := by decide +kernel
theorem dX6_findBeat_103 : decode cX6_findBeat 103 = .ok (.aload_n 0, 1) := by decide +kernel
theorem dX6_findBeat_104 : decode cX6_findBeat 104 = .ok (.getfield 15, 3) := by decide +kernel
theorem dX6_findBeat_107 : decode cX6_findBeat 107 = .ok (.invokestatic 39, 3) := by decide +kernel
theorem dX6_findBeat_110 : decode cX6_findBeat 110 = .ok (.iload_n 2, 1) := by decide +kernel
theorem dX6_findBeat_111 : decode cX6_findBeat 111 = .ok (.iconst 2, 1) := by decide +kernel
theorem dX6_findBeat_112 : decode cX6_findBeat 112 = .ok (.imul, 1) := by decide +kernel
theorem dX6_findBeat_113 : decode cX6_findBeat 113 = .ok (.istore_n 2, 1) := by decide +kernel
theorem dX6_findBeat_114 : decode cX6_findBeat 114 = .ok (.iconst 0, 1) := by decide +kernel
theorem dX6_findBeat_115 : decode cX6_findBeat 115 = .ok (.istore_n 3, 1) := by decide +kernel
theorem dX6_findBeat_116 : decode cX6_findBeat 116 = .ok (.iinc 4 1, 3) := by decide +kernel
theorem dX6_findBeat_119 : decode cX6_findBeat 119 = .ok (.goto (-87), 3) := by decide +kernel
theorem dX6_findBeat_122 : decode cX6_findBeat 122 = .ok (.bipush (-2), 2) := by decide +kernel
theorem dX6_findBeat_124 : decode cX6_findBeat 124 = .ok (.ireturn, 1) := by decide +kernel
set_option maxRecDepth 20000 in
theorem ggX6_findTail_X6_copy : GoodIn wsX6_findTail wsX6_copy := goodIn_r _ [7] (by decide +kernel) (by decide +kernel)
set_option maxRecDepth 20000 in
theorem gX6_findTail_X6_copy : GoodIn wsX6_findTail (va_wsS RX6 39 yX6_copy wsX6_copy) := goodIn_app (goodIn_of _ (by decide +kernel)) ggX6_findTail_X6_copy
set_option maxRecDepth 20000 in
theorem ggX6_findTail_X5_advance : GoodIn wsX6_findTail wsX5_advance := goodIn_r _ [12, 13, 14, 15, 16, 11, 17, 18, 19, 20, 21, 22, 23, 24, 25, 26, 27, 28, 29, 30, 31, 32, 33, 34, 35, 36, 37, 38, 39, 40, 41, 42, 43, 44, 45, 46, 47, 48, 49, 50, 51, 52, 53, 54, 55, 56, 57, 58, 59, 60, 61, 62, 63, 64, 65, 66, 67, 68, 69, 70, 71, 89, 90, 91, 92, 93, 94, 95, 96, 97, 98, 99, 100, 101, 102, 103] (by decide +kernel) (by decide +kernel)
set_option maxRecDepth 20000 in
theorem gX6_findTail_X5_advance : GoodIn wsX6_findTail (wsV RX6 47 RX5 yX5_advance wsX5_advance) := goodIn_app (goodIn_of _ (by decide +kernel)) ggX6_findTail_X5_advance
set_option maxRecDepth 20000 in
theorem ggX6_findTail_X6_isSame : GoodIn wsX6_findTail wsX6_isSame := goodIn_r _ [75, 1, 76, 77, 78, 79, 80, 81, 82, 83, 84, 85, 86, 87, 88, 89, 90, 91, 92, 93, 94] (by decide +kernel) (by decide +kernel)
set_option maxRecDepth 20000 in
theorem gX6_findTail_X6_isSame : GoodIn wsX6_findTail (wsV RX6 53 RX6 yX6_isSame wsX6_isSame) := goodIn_app (goodIn_of _ (by decide +kernel)) ggX6_findTail_X6_isSame
theorem dX6_findTail_0 : decode cX6_findTail 0 = .ok (.aload_n 0, 1) := by decide +kernel
theorem dX6_findTail_1 : decode cX6_findTail 1 = .ok (.getfield 18, 3) := by decide +kernel
theorem dX6_findTail_4 : decode cX6_findTail 4 = .ok (.getfield 34, 3) := by decide +kernel
theorem dX6_findTail_7 : decode cX6_findTail 7 = .ok (.aload_n 0, 1) := by decide +kernel
theorem dX6_findTail_8 : decode cX6_findTail 8 = .ok (.getfield 9, 3) := by decide +kernel
theorem dX6_findTail_11 : decode cX6_findTail 11 = .ok (.invokestatic 39, 3) := by decide +kernel
theorem dX6_findTail_14 : decode cX6_findTail 14 = .ok (.aload_n 0, 1) := by decide +kernel
theorem dX6_findTail_15 : decode cX6_findTail 15 = .ok (.getfield 18, 3) := by decide +kernel
theorem dX6_findTail_18 : decode cX6_findTail 18 = .ok (.getfield 34, 3) := by decide +kernel
theorem dX6_findTail_21 : decode cX6_findTail 21 = .ok (.aload_n 0, 1) := by decide +kernel
theorem dX6_findTail_22 : decode cX6_findTail 22 = .ok (.getfield 15, 3) := by decide +kernel
theorem dX6_findTail_25 : decode cX6_findTail 25 = .ok (.invokestatic 39, 3) := by decide +kernel
theorem dX6_findTail_28 : decode cX6_findTail 28 = .ok (.iconst 0, 1) := by decide +kernel
theorem dX6_findTail_29 : decode cX6_findTail 29 = .ok (.istore_n 3, 1) := by decide +kernel
theorem dX6_findTail_30 : decode cX6_findTail 30 = .ok (.iload_n 3, 1) := by decide +kernel
theorem dX6_findTail_31 : decode cX6_findTail 31 = .ok (.iload_n 2, 1) := by decide +kernel
theorem dX6_findTail_32 : decode cX6_findTail 32 = .ok (.if_icmp .ge 29, 3) := by decide +kernel
theorem dX6_findTail_35 : decode cX6_findTail 35 = .ok (.aload_n 0, 1) := by decide +kernel
theorem dX6_findTail_36 : decode cX6_findTail 36 = .ok (.getfield 18, 3) := by decide +kernel
theorem dX6_findTail_39 : decode cX6_findTail 39 = .ok (.getfield 43, 3) := by decide +kernel
theorem dX6_findTail_42 : decode cX6_findTail 42 = .ok (.aload_n 0, 1) := by decide +kernel
theorem dX6_findTail_43 : decode cX6_findTail 43 = .ok (.getfield 9, 3) := by decide +kernel
theorem dX6_findTail_46 : decode cX6_findTail 46 = .ok (.iload_n 1, 1) := by decide +kernel
theorem dX6_findTail_47 : decode cX6_findTail 47 = .ok (.invokevirtual 47, 3) := by decide +kernel
theorem dX6_findTail_50 : decode cX6_findTail 50 = .ok (.ifCond .ne 5, 3) := by decide +kernel
theorem dX6_findTail_53 : decode cX6_findTail 53 = .ok (.iconst (-1), 1) := by decide +kernel
theorem dX6_findTail_54 : decode cX6_findTail 54 = .ok (.ireturn, 1) := by decide +kernel
theorem dX6_findTail_55 : decode cX6_findTail 55 = .ok (.iinc 3 1, 3) := by decide +kernel
theorem dX6_findTail_58 : decode cX6_findTail 58 = .ok (.goto (-28), 3) := by decide +kernel
theorem dX6_findTail_61 : decode cX6_findTail 61 = .ok (.iconst 0, 1) := by decide +kernel
theorem dX6_findTail_62 : decode cX6_findTail 62 = .ok (.istore_n 3, 1) := by decide +kernel
theorem dX6_findTail_63 : decode cX6_findTail 63 = .ok (.iload_n 3, 1) := by decide +kernel
theorem dX6_findTail_64 : decode cX6_findTail 64 = .ok (.iload_n 2, 1) := by decide +kernel
theorem dX6_findTail_65 : decode cX6_findTail 65 = .ok (.iadd, 1) := by decide +kernel
theorem dX6_findTail_66 : decode cX6_findTail 66 = .ok (.sipush 4096, 3) := by decide +kernel
theorem dX6_findTail_69 : decode cX6_findTail 69 = .ok (.if_icmp .gt 64, 3) := by decide +kernel
theorem dX6_findTail_72 : decode cX6_findTail 72 = .ok (.aload_n 0, 1) := by decide +kernel
theorem dX6_findTail_73 : decode cX6_findTail 73 = .ok (.aload_n 0, 1) := by decide +kernel
theorem dX6_findTail_74 : decode cX6_findTail 74 = .ok (.getfield 9, 3) := by decide +kernel
theorem dX6_findTail_77 : decode cX6_findTail 77 = .ok (.aload_n 0, 1) := by decide +kernel
theorem dX6_findTail_78 : decode cX6_findTail 78 = .ok (.getfield 15, 3) := by decide +kernel
theorem dX6_findTail_81 : decode cX6_findTail 81 = .ok (.invokevirtual 53, 3) := by decide +kernel
theorem dX6_findTail_84 : decode cX6_findTail 84 = .ok (.ifCond .eq 5, 3) := by decide +kernel
theorem dX6_findTail_87 : decode cX6_findTail 87 = .ok (.iload_n 3, 1) := by decide +kernel
theorem dX6_findTail_88 : decode cX6_findTail 88 = .ok (.ireturn, 1) := by decide +kernel
theorem dX6_findTail_89 : decode cX6_findTail 89 = .ok (.aload_n 0, 1) := by decide +kernel
theorem dX6_findTail_90 : decode cX6_findTail 90 = .ok (.getfield 18, 3) := by decide +kernel
theorem dX6_findTail_93 : decode cX6_findTail 93 = .ok (.getfield 43, 3) := by decide +kernel
theorem dX6_findTail_96 : decode cX6_findTail 96 = .ok (.aload_n 0, 1) := by decide +kernel
theorem dX6_findTail_97 : decode cX6_findTail 97 = .ok (.getfield 9, 3) := by decide +kernel
theorem dX6_findTail_100 : decode cX6_findTail 100 = .ok (.iload_n 1, 1) := by decide +kernel
theorem dX6_findTail_101 : decode cX6_findTail 101 = .ok (.invokevirtual 47, 3) := by decide +kernel
theorem dX6_findTail_104 : decode cX6_findTail 104 = .ok (.ifCond .eq 21, 3) := by decide +kernel
theorem dX6_findTail_107 : decode cX6_findTail 107 = .ok (.aload_n 0, 1) := by decide +kernel
theorem dX6_findTail_108 : decode cX6_findTail 108 = .ok (.getfield 18, 3) := by decide +kernel
theorem dX6_findTail_111 : decode cX6_findTail 111 = .ok (.getfield 43, 3) := by decide +kernel
theorem dX6_findTail_114 : decode cX6_findTail 114 = .ok (.aload_n 0, 1) := by decide +kernel
theorem dX6_findTail_115 : decode cX6_findTail 115 = .ok (.getfield 15, 3) := by decide +kernel
theorem dX6_findTail_118 : decode cX6_findTail 118 = .ok (.iload_n 1, 1) := by decide +kernel
theorem dX6_findTail_119 : decode cX6_findTail 119 = .ok (.invokevirtual 47, 3) := by decide +kernel
theorem dX6_findTail_122 : decode cX6_findTail 122 = .ok (.ifCond .ne 5, 3) := by decide +kernel
theorem dX6_findTail_125 : decode cX6_findTail 125 = .ok (.iconst (-1), 1) := by decide +kernel
theorem dX6_findTail_126 : decode cX6_findTail 126 = .ok (.ireturn, 1) := by decide +kernel
theorem dX6_findTail_127 : decode cX6_findTail 127 = .ok (.iinc 3 1, 3) := by decide +kernel
theorem dX6_findTail_130 : decode cX6_findTail 130 = .ok (.goto (-67), 3) := by decide +kernel
theorem dX6_findTail_133 : decode cX6_findTail 133 = .ok (.iconst (-1), 1) := by decide +kernel
theorem dX6_findTail_134 : decode cX6_findTail 134 = .ok (.ireturn, 1) := by decide +kernel
set_option maxRecDepth 20000 in
theorem ggX6_ticksUntilBeyond_X6_copy : GoodIn wsX6_ticksUntilBeyond wsX6_copy := goodIn_r _ [6] (by decide +kernel) (by decide +kernel)
set_option maxRecDepth 20000 in
theorem gX6_ticksUntilBeyond_X6_copy : GoodIn wsX6_ticksUntilBeyond (va_wsS RX6 39 yX6_copy wsX6_copy) := goodIn_app (goodIn_of _ (by decide +kernel)) ggX6_ticksUntilBeyond_X6_copy
set_option maxRecDepth 20000 in
theorem ggX6_ticksUntilBeyond_X5_advance : GoodIn wsX6_ticksUntilBeyond wsX5_advance := goodIn_r _ [11, 12, 13, 14, 15, 10, 16, 17, 18, 19, 20, 21, 22, 23, 24, 25, 26, 27, 28, 29, 30, 31, 32, 33, 34, 35, 36, 37, 38, 39, 40, 41, 42, 43, 44, 45, 46, 47, 48, 49, 50, 51, 52, 53, 54, 55, 56, 57, 58, 59, 60, 61, 62, 63, 64, 65, 66, 67, 68, 69, 70, 88, 89, 90, 91, 92, 93, 94, 95, 96, 97, 98, 99, 100, 101, 102] (by decide +kernel) (by decide +kernel)
set_option maxRecDepth 20000 in
theorem gX6_ticksUntilBeyond_X5_advance : GoodIn wsX6_ticksUntilBeyond (wsV RX6 47 RX5 yX5_advance wsX5_advance) := goodIn_app (goodIn_of _ (by decide +kernel)) ggX6_ticksUntilBeyond_X5_advance
set_option maxRecDepth 20000 in
theorem ggX6_ticksUntilBeyond_X6_isBeyond : GoodIn wsX6_ticksUntilBeyond wsX6_isBeyond := goodIn_r _ [74, 1, 2, 75, 76, 77, 78, 79, 80, 81, 82, 83, 84, 85, 86, 87, 88, 89, 90, 91, 92, 93] (by decide +kernel) (by decide +kernel)
set_option maxRecDepth 20000 in
theorem gX6_ticksUntilBeyond_X6_isBeyond : GoodIn wsX6_ticksUntilBeyond (wsV RX6 57 RX6 yX6_isBeyond wsX6_isBeyond) := goodIn_app (goodIn_of _ (by decide +kernel)) ggX6_ticksUntilBeyond_X6_isBeyond
theorem dX6_ticksUntilBeyond_0 : decode cX6_ticksUntilBeyond 0 = .ok (.aload_n 0, 1) := by decide +kernel
theorem dX6_ticksUntilBeyond_1 : decode cX6_ticksUntilBeyond 1 = .ok (.getfield 18, 3) := by decide +kernel
theorem dX6_ticksUntilBeyond_4 : decode cX6_ticksUntilBeyond 4 = .ok (.getfield 34, 3) := by decide +kernel
theorem dX6_ticksUntilBeyond_7 : decode cX6_ticksUntilBeyond 7 = .ok (.aload_n 0, 1) := by decide +kernel
theorem dX6_ticksUntilBeyond_8 : decode cX6_ticksUntilBeyond 8 = .ok (.getfield 9, 3) := by decide +kernel
theorem dX6_ticksUntilBeyond_11 : decode cX6_ticksUntilBeyond 11 = .ok (.invokestatic 39, 3) := by decide +kernel
theorem dX6_ticksUntilBeyond_14 : decode cX6_ticksUntilBeyond 14 = .ok (.iconst 1, 1) := by decide +kernel
theorem dX6_ticksUntilBeyond_15 : decode cX6_ticksUntilBeyond 15 = .ok (.istore 4, 2) := by decide +kernel
theorem dX6_ticksUntilBeyond_17 : decode cX6_ticksUntilBeyond 17 = .ok (.iload 4, 2) := by decide +kernel
theorem dX6_ticksUntilBeyond_19 : decode cX6_ticksUntilBeyond 19 = .ok (.sipush 4096, 3) := by decide +kernel
theorem dX6_ticksUntilBeyond_22 : decode cX6_ticksUntilBeyond 22 = .ok (.if_icmp .gt 38, 3) := by decide +kernel
theorem dX6_ticksUntilBeyond_25 : decode cX6_ticksUntilBeyond 25 = .ok (.aload_n 0, 1) := by decide +kernel
theorem dX6_ticksUntilBeyond_26 : decode cX6_ticksUntilBeyond 26 = .ok (.getfield 18, 3) := by decide +kernel
theorem dX6_ticksUntilBeyond_29 : decode cX6_ticksUntilBeyond 29 = .ok (.getfield 43, 3) := by decide +kernel
theorem dX6_ticksUntilBeyond_32 : decode cX6_ticksUntilBeyond 32 = .ok (.aload_n 0, 1) := by decide +kernel
theorem dX6_ticksUntilBeyond_33 : decode cX6_ticksUntilBeyond 33 = .ok (.getfield 9, 3) := by decide +kernel
theorem dX6_ticksUntilBeyond_36 : decode cX6_ticksUntilBeyond 36 = .ok (.iload_n 1, 1) := by decide +kernel
theorem dX6_ticksUntilBeyond_37 : decode cX6_ticksUntilBeyond 37 = .ok (.invokevirtual 47, 3) := by decide +kernel
theorem dX6_ticksUntilBeyond_40 : decode cX6_ticksUntilBeyond 40 = .ok (.ifCond .eq 11, 3) := by decide +kernel
theorem dX6_ticksUntilBeyond_43 : decode cX6_ticksUntilBeyond 43 = .ok (.aload_n 0, 1) := by decide +kernel
theorem dX6_ticksUntilBeyond_44 : decode cX6_ticksUntilBeyond 44 = .ok (.lload_n 2, 1) := by decide +kernel
theorem dX6_ticksUntilBeyond_45 : decode cX6_ticksUntilBeyond 45 = .ok (.invokevirtual 57, 3) := by decide +kernel
theorem dX6_ticksUntilBeyond_48 : decode cX6_ticksUntilBeyond 48 = .ok (.ifCond .eq 6, 3) := by decide +kernel
theorem dX6_ticksUntilBeyond_51 : decode cX6_ticksUntilBeyond 51 = .ok (.iload 4, 2) := by decide +kernel
theorem dX6_ticksUntilBeyond_53 : decode cX6_ticksUntilBeyond 53 = .ok (.ireturn, 1) := by decide +kernel
theorem dX6_ticksUntilBeyond_54 : decode cX6_ticksUntilBeyond 54 = .ok (.iinc 4 1, 3) := by decide +kernel
theorem dX6_ticksUntilBeyond_57 : decode cX6_ticksUntilBeyond 57 = .ok (.goto (-40), 3) := by decide +kernel
theorem dX6_ticksUntilBeyond_60 : decode cX6_ticksUntilBeyond 60 = .ok (.bipush (-2), 2) := by decide +kernel
theorem dX6_ticksUntilBeyond_62 : decode cX6_ticksUntilBeyond 62 = .ok (.ireturn, 1) := by decide +kernel
theorem dX6_isBeyond_0 : decode cX6_isBeyond 0 = .ok (.iconst 0, 1) := by decide +kernel
theorem dX6_isBeyond_1 : decode cX6_isBeyond 1 = .ok (.istore_n 3, 1) := by decide +kernel
theorem dX6_isBeyond_2 : decode cX6_isBeyond 2 = .ok (.iload_n 3, 1) := by decide +kernel
theorem dX6_isBeyond_3 : decode cX6_isBeyond 3 = .ok (.aload_n 0, 1) := by decide +kernel
theorem dX6_isBeyond_4 : decode cX6_isBeyond 4 = .ok (.getfield 18, 3) := by decide +kernel
theorem dX6_isBeyond_7 : decode cX6_isBeyond 7 = .ok (.getfield 43, 3) := by decide +kernel
theorem dX6_isBeyond_10 : decode cX6_isBeyond 10 = .ok (.getfield 61, 3) := by decide +kernel
theorem dX6_isBeyond_13 : decode cX6_isBeyond 13 = .ok (.if_icmp .ge 34, 3) := by decide +kernel
theorem dX6_isBeyond_16 : decode cX6_isBeyond 16 = .ok (.aload_n 0, 1) := by decide +kernel
theorem dX6_isBeyond_17 : decode cX6_isBeyond 17 = .ok (.getfield 9, 3) := by decide +kernel
theorem dX6_isBeyond_20 : decode cX6_isBeyond 20 = .ok (.iload_n 3, 1) := by decide +kernel
theorem dX6_isBeyond_21 : decode cX6_isBeyond 21 = .ok (.laload, 1) := by decide +kernel
theorem dX6_isBeyond_22 : decode cX6_isBeyond 22 = .ok (.lload_n 1, 1) := by decide +kernel
theorem dX6_isBeyond_23 : decode cX6_isBeyond 23 = .ok (.lcmp, 1) := by decide +kernel
theorem dX6_isBeyond_24 : decode cX6_isBeyond 24 = .ok (.ifCond .gt 15, 3) := by decide +kernel
theorem dX6_isBeyond_27 : decode cX6_isBeyond 27 = .ok (.aload_n 0, 1) := by decide +kernel
theorem dX6_isBeyond_28 : decode cX6_isBeyond 28 = .ok (.getfield 9, 3) := by decide +kernel
theorem dX6_isBeyond_31 : decode cX6_isBeyond 31 = .ok (.iload_n 3, 1) := by decide +kernel
theorem dX6_isBeyond_32 : decode cX6_isBeyond 32 = .ok (.laload, 1) := by decide +kernel
theorem dX6_isBeyond_33 : decode cX6_isBeyond 33 = .ok (.lload_n 1, 1) := by decide +kernel
theorem dX6_isBeyond_34 : decode cX6_isBeyond 34 = .ok (.lneg, 1) := by decide +kernel
theorem dX6_isBeyond_35 : decode cX6_isBeyond 35 = .ok (.lcmp, 1) := by decide +kernel
theorem dX6_isBeyond_36 : decode cX6_isBeyond 36 = .ok (.ifCond .ge 5, 3) := by decide +kernel
theorem dX6_isBeyond_39 : decode cX6_isBeyond 39 = .ok (.iconst 1, 1) := by decide +kernel
theorem dX6_isBeyond_40 : decode cX6_isBeyond 40 = .ok (.ireturn, 1) := by decide +kernel
theorem dX6_isBeyond_41 : decode cX6_isBeyond 41 = .ok (.iinc 3 1, 3) := by decide +kernel
theorem dX6_isBeyond_44 : decode cX6_isBeyond 44 = .ok (.goto (-42), 3) := by decide +kernel
theorem dX6_isBeyond_47 : decode cX6_isBeyond 47 = .ok (.iconst 0, 1) := by decide +kernel
theorem dX6_isBeyond_48 : decode cX6_isBeyond 48 = .ok (.ireturn, 1) := by decide +kernel
theorem dX6_isSame_0 : decode cX6_isSame 0 = .ok (.iconst 0, 1) := by decide +kernel
theorem dX6_isSame_1 : decode cX6_isSame 1 = .ok (.istore_n 3, 1) := by decide +kernel
theorem dX6_isSame_2 : decode cX6_isSame 2 = .ok (.iload_n 3, 1) := by decide +kernel
theorem dX6_isSame_3 : decode cX6_isSame 3 = .ok (.aload_n 0, 1) := by decide +kernel
theorem dX6_isSame_4 : decode cX6_isSame 4 = .ok (.getfield 18, 3) := by decide +kernel
theorem dX6_isSame_7 : decode cX6_isSame 7 = .ok (.getfield 43, 3) := by decide +kernel
theorem dX6_isSame_10 : decode cX6_isSame 10 = .ok (.getfield 61, 3) := by decide +kernel
theorem dX6_isSame_13 : decode cX6_isSame 13 = .ok (.if_icmp .ge 21, 3) := by decide +kernel
theorem dX6_isSame_16 : decode cX6_isSame 16 = .ok (.aload_n 1, 1) := by decide +kernel
theorem dX6_isSame_17 : decode cX6_isSame 17 = .ok (.iload_n 3, 1) := by decide +kernel
theorem dX6_isSame_18 : decode cX6_isSame 18 = .ok (.laload, 1) := by decide +kernel
theorem dX6_isSame_19 : decode cX6_isSame 19 = .ok (.aload_n 2, 1) := by decide +kernel
theorem dX6_isSame_20 : decode cX6_isSame 20 = .ok (.iload_n 3, 1) := by decide +kernel
theorem dX6_isSame_21 : decode cX6_isSame 21 = .ok (.laload, 1) := by decide +kernel
theorem dX6_isSame_22 : decode cX6_isSame 22 = .ok (.lcmp, 1) := by decide +kernel
theorem dX6_isSame_23 : decode cX6_isSame 23 = .ok (.ifCond .eq 5, 3) := by decide +kernel
theorem dX6_isSame_26 : decode cX6_isSame 26 = .ok (.iconst 0, 1) := by decide +kernel
theorem dX6_isSame_27 : decode cX6_isSame 27 = .ok (.ireturn, 1) := by decide +kernel
theorem dX6_isSame_28 : decode cX6_isSame 28 = .ok (.iinc 3 1, 3) := by decide +kernel
theorem dX6_isSame_31 : decode cX6_isSame 31 = .ok (.goto (-29), 3) := by decide +kernel
theorem dX6_isSame_34 : decode cX6_isSame 34 = .ok (.iconst 1, 1) := by decide +kernel
theorem dX6_isSame_35 : decode cX6_isSame 35 = .ok (.ireturn, 1) := by decide +kernel
theorem dX6_copy_0 : decode cX6_copy 0 = .ok (.iconst 0, 1) := by decide +kernel
theorem dX6_copy_1 : decode cX6_copy 1 = .ok (.istore_n 2, 1) := by decide +kernel
theorem dX6_copy_2 : decode cX6_copy 2 = .ok (.iload_n 2, 1) := by decide +kernel
theorem dX6_copy_3 : decode cX6_copy 3 = .ok (.iconst 4, 1) := by decide +kernel
theorem dX6_copy_4 : decode cX6_copy 4 = .ok (.if_icmp .ge 15, 3) := by decide +kernel
theorem dX6_copy_7 : decode cX6_copy 7 = .ok (.aload_n 1, 1) := by decide +kernel
theorem dX6_copy_8 : decode cX6_copy 8 = .ok (.iload_n 2, 1) := by decide +kernel
theorem dX6_copy_9 : decode cX6_copy 9 = .ok (.aload_n 0, 1) := by decide +kernel
theorem dX6_copy_10 : decode cX6_copy 10 = .ok (.iload_n 2, 1) := by decide +kernel
theorem dX6_copy_11 : decode cX6_copy 11 = .ok (.laload, 1) := by decide +kernel
theorem dX6_copy_12 : decode cX6_copy 12 = .ok (.lastore, 1) := by decide +kernel
theorem dX6_copy_13 : decode cX6_copy 13 = .ok (.iinc 2 1, 3) := by decide +kernel
theorem dX6_copy_16 : decode cX6_copy 16 = .ok (.goto (-14), 3) := by decide +kernel
theorem dX6_copy_19 : decode cX6_copy 19 = .ok (.return_, 1) := by decide +kernel
theorem dX7_init_0 : decode cX7_init 0 = .ok (.aload_n 0, 1) := by decide +kernel
theorem dX7_init_1 : decode cX7_init 1 = .ok (.invokespecial 3, 3) := by decide +kernel
theorem dX7_init_4 : decode cX7_init 4 = .ok (.aload_n 0, 1) := by decide +kernel
theorem dX7_init_5 : decode cX7_init 5 = .ok (.iconst 1, 1) := by decide +kernel
theorem dX7_init_6 : decode cX7_init 6 = .ok (.putfield 9, 3) := by decide +kernel
theorem dX7_init_9 : decode cX7_init 9 = .ok (.aload_n 0, 1) := by decide +kernel
theorem dX7_init_10 : decode cX7_init 10 = .ok (.iconst 2, 1) := by decide +kernel
theorem dX7_init_11 : decode cX7_init 11 = .ok (.putfield 15, 3) := by decide +kernel
theorem dX7_init_14 : decode cX7_init 14 = .ok (.aload_n 0, 1) := by decide +kernel
theorem dX7_init_15 : decode cX7_init 15 = .ok (.bipush 8, 2) := by decide +kernel
theorem dX7_init_17 : decode cX7_init 17 = .ok (.newarray .int, 2) := by decide +kernel
theorem dX7_init_19 : decode cX7_init 19 = .ok (.putfield 18, 3) := by decide +kernel
theorem dX7_init_22 : decode cX7_init 22 = .ok (.aload_n 0, 1) := by decide +kernel
theorem dX7_init_23 : decode cX7_init 23 = .ok (.getfield 18, 3) := by decide +kernel
theorem dX7_init_26 : decode cX7_init 26 = .ok (.iconst 0, 1) := by decide +kernel
theorem dX7_init_27 : decode cX7_init 27 = .ok (.iconst 0, 1) := by decide +kernel
theorem dX7_init_28 : decode cX7_init 28 = .ok (.iastore, 1) := by decide +kernel
theorem dX7_init_29 : decode cX7_init 29 = .ok (.aload_n 0, 1) := by decide +kernel
theorem dX7_init_30 : decode cX7_init 30 = .ok (.getfield 18, 3) := by decide +kernel
theorem dX7_init_33 : decode cX7_init 33 = .ok (.iconst 1, 1) := by decide +kernel
theorem dX7_init_34 : decode cX7_init 34 = .ok (.iconst 1, 1) := by decide +kernel
theorem dX7_init_35 : decode cX7_init 35 = .ok (.iastore, 1) := by decide +kernel
theorem dX7_init_36 : decode cX7_init 36 = .ok (.return_, 1) := by decide +kernel
set_option maxRecDepth 20000 in
theorem ggX7_canTake_X10_isWithin : GoodIn wsX7_canTake wsX10_isWithin := goodIn_r _ [3] (by decide +kernel) (by decide +kernel)
set_option maxRecDepth 20000 in
theorem gX7_canTake_X10_isWithin_n22 : GoodIn wsX7_canTake (wsX10_isWithin) := ggX7_canTake_X10_isWithin
theorem dX7_canTake_0 : decode cX7_canTake 0 = .ok (.iload_n 1, 1) := by decide +kernel
theorem dX7_canTake_1 : decode cX7_canTake 1 = .ok (.iconst 2, 1) := by decide +kernel
theorem dX7_canTake_2 : decode cX7_canTake 2 = .ok (.if_icmp .lt 15, 3) := by decide +kernel
theorem dX7_canTake_5 : decode cX7_canTake 5 = .ok (.iload_n 1, 1) := by decide +kernel
theorem dX7_canTake_6 : decode cX7_canTake 6 = .ok (.bipush 8, 2) := by decide +kernel
theorem dX7_canTake_8 : decode cX7_canTake 8 = .ok (.if_icmp .gt 9, 3) := by decide +kernel
theorem dX7_canTake_11 : decode cX7_canTake 11 = .ok (.iload_n 1, 1) := by decide +kernel
theorem dX7_canTake_12 : decode cX7_canTake 12 = .ok (.aload_n 2, 1) := by decide +kernel
theorem dX7_canTake_13 : decode cX7_canTake 13 = .ok (.arraylength, 1) := by decide +kernel
theorem dX7_canTake_14 : decode cX7_canTake 14 = .ok (.if_icmp .le 5, 3) := by decide +kernel
theorem dX7_canTake_17 : decode cX7_canTake 17 = .ok (.iconst 0, 1) := by decide +kernel
theorem dX7_canTake_18 : decode cX7_canTake 18 = .ok (.ireturn, 1) := by decide +kernel
theorem dX7_canTake_19 : decode cX7_canTake 19 = .ok (.iconst 0, 1) := by decide +kernel
theorem dX7_canTake_20 : decode cX7_canTake 20 = .ok (.istore_n 3, 1) := by decide +kernel
theorem dX7_canTake_21 : decode cX7_canTake 21 = .ok (.iload_n 3, 1) := by decide +kernel
theorem dX7_canTake_22 : decode cX7_canTake 22 = .ok (.iload_n 1, 1) := by decide +kernel
theorem dX7_canTake_23 : decode cX7_canTake 23 = .ok (.if_icmp .ge 37, 3) := by decide +kernel
theorem dX7_canTake_26 : decode cX7_canTake 26 = .ok (.aload_n 2, 1) := by decide +kernel
theorem dX7_canTake_27 : decode cX7_canTake 27 = .ok (.iload_n 3, 1) := by decide +kernel
theorem dX7_canTake_28 : decode cX7_canTake 28 = .ok (.iaload, 1) := by decide +kernel
theorem dX7_canTake_29 : decode cX7_canTake 29 = .ok (.bipush 100, 2) := by decide +kernel
theorem dX7_canTake_31 : decode cX7_canTake 31 = .ok (.invokestatic 22, 3) := by decide +kernel
theorem dX7_canTake_34 : decode cX7_canTake 34 = .ok (.ifCond .eq 18, 3) := by decide +kernel
theorem dX7_canTake_37 : decode cX7_canTake 37 = .ok (.iload_n 3, 1) := by decide +kernel
theorem dX7_canTake_38 : decode cX7_canTake 38 = .ok (.ifCond .le 16, 3) := by decide +kernel
theorem dX7_canTake_41 : decode cX7_canTake 41 = .ok (.aload_n 2, 1) := by decide +kernel
theorem dX7_canTake_42 : decode cX7_canTake 42 = .ok (.iload_n 3, 1) := by decide +kernel
theorem dX7_canTake_43 : decode cX7_canTake 43 = .ok (.iaload, 1) := by decide +kernel
theorem dX7_canTake_44 : decode cX7_canTake 44 = .ok (.aload_n 2, 1) := by decide +kernel
theorem dX7_canTake_45 : decode cX7_canTake 45 = .ok (.iload_n 3, 1) := by decide +kernel
theorem dX7_canTake_46 : decode cX7_canTake 46 = .ok (.iconst 1, 1) := by decide +kernel
theorem dX7_canTake_47 : decode cX7_canTake 47 = .ok (.isub, 1) := by decide +kernel
theorem dX7_canTake_48 : decode cX7_canTake 48 = .ok (.iaload, 1) := by decide +kernel
theorem dX7_canTake_49 : decode cX7_canTake 49 = .ok (.if_icmp .gt 5, 3) := by decide +kernel
theorem dX7_canTake_52 : decode cX7_canTake 52 = .ok (.iconst 0, 1) := by decide +kernel
theorem dX7_canTake_53 : decode cX7_canTake 53 = .ok (.ireturn, 1) := by decide +kernel
theorem dX7_canTake_54 : decode cX7_canTake 54 = .ok (.iinc 3 1, 3) := by decide +kernel
theorem dX7_canTake_57 : decode cX7_canTake 57 = .ok (.goto (-36), 3) := by decide +kernel
theorem dX7_canTake_60 : decode cX7_canTake 60 = .ok (.iconst 1, 1) := by decide +kernel
theorem dX7_canTake_61 : decode cX7_canTake 61 = .ok (.ireturn, 1) := by decide +kernel
theorem dX7_take_0 : decode cX7_take 0 = .ok (.aload_n 0, 1) := by decide +kernel
theorem dX7_take_1 : decode cX7_take 1 = .ok (.iload_n 1, 1) := by decide +kernel
theorem dX7_take_2 : decode cX7_take 2 = .ok (.putfield 15, 3) := by decide +kernel
theorem dX7_take_5 : decode cX7_take 5 = .ok (.iconst 0, 1) := by decide +kernel
theorem dX7_take_6 : decode cX7_take 6 = .ok (.istore_n 3, 1) := by decide +kernel
theorem dX7_take_7 : decode cX7_take 7 = .ok (.iload_n 3, 1) := by decide +kernel
theorem dX7_take_8 : decode cX7_take 8 = .ok (.iload_n 1, 1) := by decide +kernel
theorem dX7_take_9 : decode cX7_take 9 = .ok (.if_icmp .ge 18, 3) := by decide +kernel
theorem dX7_take_12 : decode cX7_take 12 = .ok (.aload_n 0, 1) := by decide +kernel
theorem dX7_take_13 : decode cX7_take 13 = .ok (.getfield 18, 3) := by decide +kernel
theorem dX7_take_16 : decode cX7_take 16 = .ok (.iload_n 3, 1) := by decide +kernel
theorem dX7_take_17 : decode cX7_take 17 = .ok (.aload_n 2, 1) := by decide +kernel
theorem dX7_take_18 : decode cX7_take 18 = .ok (.iload_n 3, 1) := by decide +kernel
theorem dX7_take_19 : decode cX7_take 19 = .ok (.iaload, 1) := by decide +kernel
theorem dX7_take_20 : decode cX7_take 20 = .ok (.iastore, 1) := by decide +kernel
theorem dX7_take_21 : decode cX7_take 21 = .ok (.iinc 3 1, 3) := by decide +kernel
theorem dX7_take_24 : decode cX7_take 24 = .ok (.goto (-17), 3) := by decide +kernel
theorem dX7_take_27 : decode cX7_take 27 = .ok (.return_, 1) := by decide +kernel
theorem dX7_placeFor_0 : decode cX7_placeFor 0 = .ok (.aload_n 0, 1) := by decide +kernel
theorem dX7_placeFor_1 : decode cX7_placeFor 1 = .ok (.getfield 15, 3) := by decide +kernel
theorem dX7_placeFor_4 : decode cX7_placeFor 4 = .ok (.iconst 1, 1) := by decide +kernel
theorem dX7_placeFor_5 : decode cX7_placeFor 5 = .ok (.isub, 1) := by decide +kernel
theorem dX7_placeFor_6 : decode cX7_placeFor 6 = .ok (.istore_n 3, 1) := by decide +kernel
theorem dX7_placeFor_7 : decode cX7_placeFor 7 = .ok (.iload_n 3, 1) := by decide +kernel
theorem dX7_placeFor_8 : decode cX7_placeFor 8 = .ok (.ifCond .le 29, 3) := by decide +kernel
theorem dX7_placeFor_11 : decode cX7_placeFor 11 = .ok (.aload_n 0, 1) := by decide +kernel
theorem dX7_placeFor_12 : decode cX7_placeFor 12 = .ok (.getfield 18, 3) := by decide +kernel
theorem dX7_placeFor_15 : decode cX7_placeFor 15 = .ok (.iload_n 3, 1) := by decide +kernel
theorem dX7_placeFor_16 : decode cX7_placeFor 16 = .ok (.iaload, 1) := by decide +kernel
theorem dX7_placeFor_17 : decode cX7_placeFor 17 = .ok (.i2l, 1) := by decide +kernel
theorem dX7_placeFor_18 : decode cX7_placeFor 18 = .ok (.aload_n 0, 1) := by decide +kernel
theorem dX7_placeFor_19 : decode cX7_placeFor 19 = .ok (.getfield 9, 3) := by decide +kernel
theorem dX7_placeFor_22 : decode cX7_placeFor 22 = .ok (.i2l, 1) := by decide +kernel
theorem dX7_placeFor_23 : decode cX7_placeFor 23 = .ok (.lmul, 1) := by decide +kernel
theorem dX7_placeFor_24 : decode cX7_placeFor 24 = .ok (.lload_n 1, 1) := by decide +kernel
theorem dX7_placeFor_25 : decode cX7_placeFor 25 = .ok (.lcmp, 1) := by decide +kernel
theorem dX7_placeFor_26 : decode cX7_placeFor 26 = .ok (.ifCond .gt 5, 3) := by decide +kernel
theorem dX7_placeFor_29 : decode cX7_placeFor 29 = .ok (.iload_n 3, 1) := by decide +kernel
theorem dX7_placeFor_30 : decode cX7_placeFor 30 = .ok (.ireturn, 1) := by decide +kernel
theorem dX7_placeFor_31 : decode cX7_placeFor 31 = .ok (.iinc 3 (-1), 3) := by decide +kernel
theorem dX7_placeFor_34 : decode cX7_placeFor 34 = .ok (.goto (-27), 3) := by decide +kernel
theorem dX7_placeFor_37 : decode cX7_placeFor 37 = .ok (.iconst 0, 1) := by decide +kernel
theorem dX7_placeFor_38 : decode cX7_placeFor 38 = .ok (.ireturn, 1) := by decide +kernel
theorem dX7_fineAt_0 : decode cX7_fineAt 0 = .ok (.aload_n 0, 1) := by decide +kernel
theorem dX7_fineAt_1 : decode cX7_fineAt 1 = .ok (.getfield 18, 3) := by decide +kernel
theorem dX7_fineAt_4 : decode cX7_fineAt 4 = .ok (.iload_n 1, 1) := by decide +kernel
theorem dX7_fineAt_5 : decode cX7_fineAt 5 = .ok (.iaload, 1) := by decide +kernel
theorem dX7_fineAt_6 : decode cX7_fineAt 6 = .ok (.i2l, 1) := by decide +kernel
theorem dX7_fineAt_7 : decode cX7_fineAt 7 = .ok (.aload_n 0, 1) := by decide +kernel
theorem dX7_fineAt_8 : decode cX7_fineAt 8 = .ok (.getfield 9, 3) := by decide +kernel
theorem dX7_fineAt_11 : decode cX7_fineAt 11 = .ok (.i2l, 1) := by decide +kernel
theorem dX7_fineAt_12 : decode cX7_fineAt 12 = .ok (.lmul, 1) := by decide +kernel
theorem dX7_fineAt_13 : decode cX7_fineAt 13 = .ok (.lreturn, 1) := by decide +kernel
theorem dX8_init_0 : decode cX8_init 0 = .ok (.aload_n 0, 1) := by decide +kernel
theorem dX8_init_1 : decode cX8_init 1 = .ok (.invokespecial 3, 3) := by decide +kernel
theorem dX8_init_4 : decode cX8_init 4 = .ok (.aload_n 0, 1) := by decide +kernel
theorem dX8_init_5 : decode cX8_init 5 = .ok (.iconst 1, 1) := by decide +kernel
theorem dX8_init_6 : decode cX8_init 6 = .ok (.putfield 9, 3) := by decide +kernel
theorem dX8_init_9 : decode cX8_init 9 = .ok (.aload_n 0, 1) := by decide +kernel
theorem dX8_init_10 : decode cX8_init 10 = .ok (.bipush 16, 2) := by decide +kernel
theorem dX8_init_12 : decode cX8_init 12 = .ok (.newarray .int, 2) := by decide +kernel
theorem dX8_init_14 : decode cX8_init 14 = .ok (.putfield 15, 3) := by decide +kernel
theorem dX8_init_17 : decode cX8_init 17 = .ok (.aload_n 0, 1) := by decide +kernel
theorem dX8_init_18 : decode cX8_init 18 = .ok (.iconst 4, 1) := by decide +kernel
theorem dX8_init_19 : decode cX8_init 19 = .ok (.newarray .int, 2) := by decide +kernel
theorem dX8_init_21 : decode cX8_init 21 = .ok (.putfield 19, 3) := by decide +kernel
theorem dX8_init_24 : decode cX8_init 24 = .ok (.aload_n 0, 1) := by decide +kernel
theorem dX8_init_25 : decode cX8_init 25 = .ok (.iconst 4, 1) := by decide +kernel
theorem dX8_init_26 : decode cX8_init 26 = .ok (.newarray .int, 2) := by decide +kernel
theorem dX8_init_28 : decode cX8_init 28 = .ok (.putfield 22, 3) := by decide +kernel
theorem dX8_init_31 : decode cX8_init 31 = .ok (.aload_n 0, 1) := by decide +kernel
theorem dX8_init_32 : decode cX8_init 32 = .ok (.iconst 4, 1) := by decide +kernel
theorem dX8_init_33 : decode cX8_init 33 = .ok (.newarray .int, 2) := by decide +kernel
theorem dX8_init_35 : decode cX8_init 35 = .ok (.putfield 25, 3) := by decide +kernel
theorem dX8_init_38 : decode cX8_init 38 = .ok (.return_, 1) := by decide +kernel
theorem dX8_begin_0 : decode cX8_begin 0 = .ok (.aload_n 0, 1) := by decide +kernel
theorem dX8_begin_1 : decode cX8_begin 1 = .ok (.iload_n 1, 1) := by decide +kernel
theorem dX8_begin_2 : decode cX8_begin 2 = .ok (.putfield 9, 3) := by decide +kernel
theorem dX8_begin_5 : decode cX8_begin 5 = .ok (.aload_n 0, 1) := by decide +kernel
theorem dX8_begin_6 : decode cX8_begin 6 = .ok (.iconst 0, 1) := by decide +kernel
theorem dX8_begin_7 : decode cX8_begin 7 = .ok (.putfield 28, 3) := by decide +kernel
theorem dX8_begin_10 : decode cX8_begin 10 = .ok (.iconst 0, 1) := by decide +kernel
theorem dX8_begin_11 : decode cX8_begin 11 = .ok (.istore_n 2, 1) := by decide +kernel
theorem dX8_begin_12 : decode cX8_begin 12 = .ok (.iload_n 2, 1) := by decide +kernel
theorem dX8_begin_13 : decode cX8_begin 13 = .ok (.aload_n 0, 1) := by decide +kernel
theorem dX8_begin_14 : decode cX8_begin 14 = .ok (.getfield 15, 3) := by decide +kernel
theorem dX8_begin_17 : decode cX8_begin 17 = .ok (.arraylength, 1) := by decide +kernel
theorem dX8_begin_18 : decode cX8_begin 18 = .ok (.if_icmp .ge 16, 3) := by decide +kernel
theorem dX8_begin_21 : decode cX8_begin 21 = .ok (.aload_n 0, 1) := by decide +kernel
theorem dX8_begin_22 : decode cX8_begin 22 = .ok (.getfield 15, 3) := by decide +kernel
theorem dX8_begin_25 : decode cX8_begin 25 = .ok (.iload_n 2, 1) := by decide +kernel
theorem dX8_begin_26 : decode cX8_begin 26 = .ok (.iconst 0, 1) := by decide +kernel
theorem dX8_begin_27 : decode cX8_begin 27 = .ok (.iastore, 1) := by decide +kernel
theorem dX8_begin_28 : decode cX8_begin 28 = .ok (.iinc 2 1, 3) := by decide +kernel
theorem dX8_begin_31 : decode cX8_begin 31 = .ok (.goto (-19), 3) := by decide +kernel
theorem dX8_begin_34 : decode cX8_begin 34 = .ok (.iconst 0, 1) := by decide +kernel
theorem dX8_begin_35 : decode cX8_begin 35 = .ok (.istore_n 2, 1) := by decide +kernel
theorem dX8_begin_36 : decode cX8_begin 36 = .ok (.iload_n 2, 1) := by decide +kernel
theorem dX8_begin_37 : decode cX8_begin 37 = .ok (.iconst 4, 1) := by decide +kernel
theorem dX8_begin_38 : decode cX8_begin 38 = .ok (.if_icmp .ge 30, 3) := by decide +kernel
theorem dX8_begin_41 : decode cX8_begin 41 = .ok (.aload_n 0, 1) := by decide +kernel
theorem dX8_begin_42 : decode cX8_begin 42 = .ok (.getfield 19, 3) := by decide +kernel
theorem dX8_begin_45 : decode cX8_begin 45 = .ok (.iload_n 2, 1) := by decide +kernel
theorem dX8_begin_46 : decode cX8_begin 46 = .ok (.iconst 0, 1) := by decide +kernel
theorem dX8_begin_47 : decode cX8_begin 47 = .ok (.iastore, 1) := by decide +kernel
theorem dX8_begin_48 : decode cX8_begin 48 = .ok (.aload_n 0, 1) := by decide +kernel
theorem dX8_begin_49 : decode cX8_begin 49 = .ok (.getfield 22, 3) := by decide +kernel
theorem dX8_begin_52 : decode cX8_begin 52 = .ok (.iload_n 2, 1) := by decide +kernel
theorem dX8_begin_53 : decode cX8_begin 53 = .ok (.iconst 0, 1) := by decide +kernel
theorem dX8_begin_54 : decode cX8_begin 54 = .ok (.iastore, 1) := by decide +kernel
theorem dX8_begin_55 : decode cX8_begin 55 = .ok (.aload_n 0, 1) := by decide +kernel
theorem dX8_begin_56 : decode cX8_begin 56 = .ok (.getfield 25, 3) := by decide +kernel
theorem dX8_begin_59 : decode cX8_begin 59 = .ok (.iload_n 2, 1) := by decide +kernel
theorem dX8_begin_60 : decode cX8_begin 60 = .ok (.iconst 0, 1) := by decide +kernel
theorem dX8_begin_61 : decode cX8_begin 61 = .ok (.iastore, 1) := by decide +kernel
theorem dX8_begin_62 : decode cX8_begin 62 = .ok (.iinc 2 1, 3) := by decide +kernel
theorem dX8_begin_65 : decode cX8_begin 65 = .ok (.goto (-29), 3) := by decide +kernel
theorem dX8_begin_68 : decode cX8_begin 68 = .ok (.return_, 1) := by decide +kernel
theorem dX8_put_0 : decode cX8_put 0 = .ok (.iload_n 1, 1) := by decide +kernel
theorem dX8_put_1 : decode cX8_put 1 = .ok (.ifCond .lt 15, 3) := by decide +kernel
theorem dX8_put_4 : decode cX8_put 4 = .ok (.iload_n 1, 1) := by decide +kernel
theorem dX8_put_5 : decode cX8_put 5 = .ok (.aload_n 0, 1) := by decide +kernel
theorem dX8_put_6 : decode cX8_put 6 = .ok (.getfield 9, 3) := by decide +kernel
theorem dX8_put_9 : decode cX8_put 9 = .ok (.if_icmp .ge 7, 3) := by decide +kernel
theorem dX8_put_12 : decode cX8_put 12 = .ok (.iconst 1, 1) := by decide +kernel
theorem dX8_put_13 : decode cX8_put 13 = .ok (.goto 4, 3) := by decide +kernel
theorem dX8_put_16 : decode cX8_put 16 = .ok (.iconst 0, 1) := by decide +kernel
theorem dX8_put_17 : decode cX8_put 17 = .ok (.istore 4, 2) := by decide +kernel
theorem dX8_put_19 : decode cX8_put 19 = .ok (.iload_n 2, 1) := by decide +kernel
theorem dX8_put_20 : decode cX8_put 20 = .ok (.ifCond .lt 15, 3) := by decide +kernel
theorem dX8_put_23 : decode cX8_put 23 = .ok (.iload_n 2, 1) := by decide +kernel
theorem dX8_put_24 : decode cX8_put 24 = .ok (.aload_n 0, 1) := by decide +kernel
theorem dX8_put_25 : decode cX8_put 25 = .ok (.getfield 9, 3) := by decide +kernel
theorem dX8_put_28 : decode cX8_put 28 = .ok (.if_icmp .ge 7, 3) := by decide +kernel
theorem dX8_put_31 : decode cX8_put 31 = .ok (.iconst 1, 1) := by decide +kernel
theorem dX8_put_32 : decode cX8_put 32 = .ok (.goto 4, 3) := by decide +kernel
theorem dX8_put_35 : decode cX8_put 35 = .ok (.iconst 0, 1) := by decide +kernel
theorem dX8_put_36 : decode cX8_put 36 = .ok (.istore 5, 2) := by decide +kernel
theorem dX8_put_38 : decode cX8_put 38 = .ok (.iload 4, 2) := by decide +kernel
theorem dX8_put_40 : decode cX8_put 40 = .ok (.ifCond .eq 22, 3) := by decide +kernel
theorem dX8_put_43 : decode cX8_put 43 = .ok (.iload 5, 2) := by decide +kernel
theorem dX8_put_45 : decode cX8_put 45 = .ok (.ifCond .eq 17, 3) := by decide +kernel
theorem dX8_put_48 : decode cX8_put 48 = .ok (.aload_n 0, 1) := by decide +kernel
theorem dX8_put_49 : decode cX8_put 49 = .ok (.getfield 15, 3) := by decide +kernel
theorem dX8_put_52 : decode cX8_put 52 = .ok (.iload_n 1, 1) := by decide +kernel
theorem dX8_put_53 : decode cX8_put 53 = .ok (.iconst 4, 1) := by decide +kernel
theorem dX8_put_54 : decode cX8_put 54 = .ok (.imul, 1) := by decide +kernel
theorem dX8_put_55 : decode cX8_put 55 = .ok (.iload_n 2, 1) := by decide +kernel
theorem dX8_put_56 : decode cX8_put 56 = .ok (.iadd, 1) := by decide +kernel
theorem dX8_put_57 : decode cX8_put 57 = .ok (.iload_n 3, 1) := by decide +kernel
theorem dX8_put_58 : decode cX8_put 58 = .ok (.iastore, 1) := by decide +kernel
theorem dX8_put_59 : decode cX8_put 59 = .ok (.goto 83, 3) := by decide +kernel
theorem dX8_put_62 : decode cX8_put 62 = .ok (.iload 4, 2) := by decide +kernel
theorem dX8_put_64 : decode cX8_put 64 = .ok (.ifCond .eq 18, 3) := by decide +kernel
theorem dX8_put_67 : decode cX8_put 67 = .ok (.iload_n 2, 1) := by decide +kernel
theorem dX8_put_68 : decode cX8_put 68 = .ok (.iconst 4, 1) := by decide +kernel
theorem dX8_put_69 : decode cX8_put 69 = .ok (.if_icmp .ne 13, 3) := by decide +kernel
theorem dX8_put_72 : decode cX8_put 72 = .ok (.aload_n 0, 1) := by decide +kernel
theorem dX8_put_73 : decode cX8_put 73 = .ok (.getfield 19, 3) := by decide +kernel
theorem dX8_put_76 : decode cX8_put 76 = .ok (.iload_n 1, 1) := by decide +kernel
theorem dX8_put_77 : decode cX8_put 77 = .ok (.iload_n 3, 1) := by decide +kernel
theorem dX8_put_78 : decode cX8_put 78 = .ok (.iastore, 1) := by decide +kernel
theorem dX8_put_79 : decode cX8_put 79 = .ok (.goto 63, 3) := by decide +kernel
theorem dX8_put_82 : decode cX8_put 82 = .ok (.iload 4, 2) := by decide +kernel
theorem dX8_put_84 : decode cX8_put 84 = .ok (.ifCond .eq 18, 3) := by decide +kernel
theorem dX8_put_87 : decode cX8_put 87 = .ok (.iload_n 2, 1) := by decide +kernel
theorem dX8_put_88 : decode cX8_put 88 = .ok (.iconst 5, 1) := by decide +kernel
theorem dX8_put_89 : decode cX8_put 89 = .ok (.if_icmp .ne 13, 3) := by decide +kernel
theorem dX8_put_92 : decode cX8_put 92 = .ok (.aload_n 0, 1) := by decide +kernel
theorem dX8_put_93 : decode cX8_put 93 = .ok (.getfield 22, 3) := by decide +kernel
theorem dX8_put_96 : decode cX8_put 96 = .ok (.iload_n 1, 1) := by decide +kernel
theorem dX8_put_97 : decode cX8_put 97 = .ok (.iload_n 3, 1) := by decide +kernel
theorem dX8_put_98 : decode cX8_put 98 = .ok (.iastore, 1) := by decide +kernel
theorem dX8_put_99 : decode cX8_put 99 = .ok (.goto 43, 3) := by decide +kernel
theorem dX8_put_102 : decode cX8_put 102 = .ok (.iload_n 1, 1) := by decide +kernel
theorem dX8_put_103 : decode cX8_put 103 = .ok (.iconst 4, 1) := by decide +kernel
theorem dX8_put_104 : decode cX8_put 104 = .ok (.if_icmp .ne 18, 3) := by decide +kernel
theorem dX8_put_107 : decode cX8_put 107 = .ok (.iload 5, 2) := by decide +kernel
theorem dX8_put_109 : decode cX8_put 109 = .ok (.ifCond .eq 13, 3) := by decide +kernel
theorem dX8_put_112 : decode cX8_put 112 = .ok (.aload_n 0, 1) := by decide +kernel
theorem dX8_put_113 : decode cX8_put 113 = .ok (.getfield 25, 3) := by decide +kernel
theorem dX8_put_116 : decode cX8_put 116 = .ok (.iload_n 2, 1) := by decide +kernel
theorem dX8_put_117 : decode cX8_put 117 = .ok (.iload_n 3, 1) := by decide +kernel
theorem dX8_put_118 : decode cX8_put 118 = .ok (.iastore, 1) := by decide +kernel
theorem dX8_put_119 : decode cX8_put 119 = .ok (.goto 23, 3) := by decide +kernel
theorem dX8_put_122 : decode cX8_put 122 = .ok (.iload_n 1, 1) := by decide +kernel
theorem dX8_put_123 : decode cX8_put 123 = .ok (.iconst 4, 1) := by decide +kernel
theorem dX8_put_124 : decode cX8_put 124 = .ok (.if_icmp .ne 16, 3) := by decide +kernel
theorem dX8_put_127 : decode cX8_put 127 = .ok (.iload_n 2, 1) := by decide +kernel
theorem dX8_put_128 : decode cX8_put 128 = .ok (.iconst 4, 1) := by decide +kernel
theorem dX8_put_129 : decode cX8_put 129 = .ok (.if_icmp .ne 11, 3) := by decide +kernel
theorem dX8_put_132 : decode cX8_put 132 = .ok (.aload_n 0, 1) := by decide +kernel
theorem dX8_put_133 : decode cX8_put 133 = .ok (.iload_n 3, 1) := by decide +kernel
theorem dX8_put_134 : decode cX8_put 134 = .ok (.putfield 28, 3) := by decide +kernel
theorem dX8_put_137 : decode cX8_put 137 = .ok (.goto 5, 3) := by decide +kernel
theorem dX8_put_140 : decode cX8_put 140 = .ok (.iconst 0, 1) := by decide +kernel
theorem dX8_put_141 : decode cX8_put 141 = .ok (.ireturn, 1) := by decide +kernel
theorem dX8_put_142 : decode cX8_put 142 = .ok (.iconst 1, 1) := by decide +kernel
theorem dX8_put_143 : decode cX8_put 143 = .ok (.ireturn, 1) := by decide +kernel
theorem dX8_measure_0 : decode cX8_measure 0 = .ok (.aload_n 0, 1) := by decide +kernel
theorem dX8_measure_1 : decode cX8_measure 1 = .ok (.getfield 28, 3) := by decide +kernel
theorem dX8_measure_4 : decode cX8_measure 4 = .ok (.i2l, 1) := by decide +kernel
theorem dX8_measure_5 : decode cX8_measure 5 = .ok (.iload_n 2, 1) := by decide +kernel
theorem dX8_measure_6 : decode cX8_measure 6 = .ok (.i2l, 1) := by decide +kernel
theorem dX8_measure_7 : decode cX8_measure 7 = .ok (.lmul, 1) := by decide +kernel
theorem dX8_measure_8 : decode cX8_measure 8 = .ok (.lstore_n 3, 1) := by decide +kernel
theorem dX8_measure_9 : decode cX8_measure 9 = .ok (.iconst 0, 1) := by decide +kernel
theorem dX8_measure_10 : decode cX8_measure 10 = .ok (.istore 5, 2) := by decide +kernel
theorem dX8_measure_12 : decode cX8_measure 12 = .ok (.iload 5, 2) := by decide +kernel
theorem dX8_measure_14 : decode cX8_measure 14 = .ok (.aload_n 0, 1) := by decide +kernel
theorem dX8_measure_15 : decode cX8_measure 15 = .ok (.getfield 9, 3) := by decide +kernel
theorem dX8_measure_18 : decode cX8_measure 18 = .ok (.if_icmp .ge 25, 3) := by decide +kernel
theorem dX8_measure_21 : decode cX8_measure 21 = .ok (.lload_n 3, 1) := by decide +kernel
theorem dX8_measure_22 : decode cX8_measure 22 = .ok (.aload_n 0, 1) := by decide +kernel
theorem dX8_measure_23 : decode cX8_measure 23 = .ok (.getfield 25, 3) := by decide +kernel
theorem dX8_measure_26 : decode cX8_measure 26 = .ok (.iload 5, 2) := by decide +kernel
theorem dX8_measure_28 : decode cX8_measure 28 = .ok (.iaload, 1) := by decide +kernel
theorem dX8_measure_29 : decode cX8_measure 29 = .ok (.i2l, 1) := by decide +kernel
theorem dX8_measure_30 : decode cX8_measure 30 = .ok (.aload_n 1, 1) := by decide +kernel
theorem dX8_measure_31 : decode cX8_measure 31 = .ok (.iload 5, 2) := by decide +kernel
theorem dX8_measure_33 : decode cX8_measure 33 = .ok (.laload, 1) := by decide +kernel
theorem dX8_measure_34 : decode cX8_measure 34 = .ok (.lmul, 1) := by decide +kernel
theorem dX8_measure_35 : decode cX8_measure 35 = .ok (.ladd, 1) := by decide +kernel
theorem dX8_measure_36 : decode cX8_measure 36 = .ok (.lstore_n 3, 1) := by decide +kernel
theorem dX8_measure_37 : decode cX8_measure 37 = .ok (.iinc 5 1, 3) := by decide +kernel
theorem dX8_measure_40 : decode cX8_measure 40 = .ok (.goto (-28), 3) := by decide +kernel
theorem dX8_measure_43 : decode cX8_measure 43 = .ok (.lload_n 3, 1) := by decide +kernel
theorem dX8_measure_44 : decode cX8_measure 44 = .ok (.lreturn, 1) := by decide +kernel
theorem dX8_next_0 : decode cX8_next 0 = .ok (.aload_n 0, 1) := by decide +kernel
theorem dX8_next_1 : decode cX8_next 1 = .ok (.getfield 19, 3) := by decide +kernel
theorem dX8_next_4 : decode cX8_next 4 = .ok (.iload_n 1, 1) := by decide +kernel
theorem dX8_next_5 : decode cX8_next 5 = .ok (.iaload, 1) := by decide +kernel
theorem dX8_next_6 : decode cX8_next 6 = .ok (.i2l, 1) := by decide +kernel
theorem dX8_next_7 : decode cX8_next 7 = .ok (.iload_n 3, 1) := by decide +kernel
theorem dX8_next_8 : decode cX8_next 8 = .ok (.i2l, 1) := by decide +kernel
theorem dX8_next_9 : decode cX8_next 9 = .ok (.lmul, 1) := by decide +kernel
theorem dX8_next_10 : decode cX8_next 10 = .ok (.aload_n 0, 1) := by decide +kernel
theorem dX8_next_11 : decode cX8_next 11 = .ok (.getfield 22, 3) := by decide +kernel
theorem dX8_next_14 : decode cX8_next 14 = .ok (.iload_n 1, 1) := by decide +kernel
theorem dX8_next_15 : decode cX8_next 15 = .ok (.iaload, 1) := by decide +kernel
theorem dX8_next_16 : decode cX8_next 16 = .ok (.i2l, 1) := by decide +kernel
theorem dX8_next_17 : decode cX8_next 17 = .ok (.lload 4, 2) := by decide +kernel
theorem dX8_next_19 : decode cX8_next 19 = .ok (.lmul, 1) := by decide +kernel
theorem dX8_next_20 : decode cX8_next 20 = .ok (.ladd, 1) := by decide +kernel
theorem dX8_next_21 : decode cX8_next 21 = .ok (.lstore 6, 2) := by decide +kernel
theorem dX8_next_23 : decode cX8_next 23 = .ok (.iconst 0, 1) := by decide +kernel
theorem dX8_next_24 : decode cX8_next 24 = .ok (.istore 8, 2) := by decide +kernel
theorem dX8_next_26 : decode cX8_next 26 = .ok (.iload 8, 2) := by decide +kernel
theorem dX8_next_28 : decode cX8_next 28 = .ok (.aload_n 0, 1) := by decide +kernel
theorem dX8_next_29 : decode cX8_next 29 = .ok (.getfield 9, 3) := by decide +kernel
theorem dX8_next_32 : decode cX8_next 32 = .ok (.if_icmp .ge 31, 3) := by decide +kernel
theorem dX8_next_35 : decode cX8_next 35 = .ok (.lload 6, 2) := by decide +kernel
theorem dX8_next_37 : decode cX8_next 37 = .ok (.aload_n 0, 1) := by decide +kernel
theorem dX8_next_38 : decode cX8_next 38 = .ok (.getfield 15, 3) := by decide +kernel
theorem dX8_next_41 : decode cX8_next 41 = .ok (.iload_n 1, 1) := by decide +kernel
theorem dX8_next_42 : decode cX8_next 42 = .ok (.iconst 4, 1) := by decide +kernel
theorem dX8_next_43 : decode cX8_next 43 = .ok (.imul, 1) := by decide +kernel
theorem dX8_next_44 : decode cX8_next 44 = .ok (.iload 8, 2) := by decide +kernel
theorem dX8_next_46 : decode cX8_next 46 = .ok (.iadd, 1) := by decide +kernel
theorem dX8_next_47 : decode cX8_next 47 = .ok (.iaload, 1) := by decide +kernel
theorem dX8_next_48 : decode cX8_next 48 = .ok (.i2l, 1) := by decide +kernel
theorem dX8_next_49 : decode cX8_next 49 = .ok (.aload_n 2, 1) := by decide +kernel
theorem dX8_next_50 : decode cX8_next 50 = .ok (.iload 8, 2) := by decide +kernel
theorem dX8_next_52 : decode cX8_next 52 = .ok (.laload, 1) := by decide +kernel
theorem dX8_next_53 : decode cX8_next 53 = .ok (.lmul, 1) := by decide +kernel
theorem dX8_next_54 : decode cX8_next 54 = .ok (.ladd, 1) := by decide +kernel
theorem dX8_next_55 : decode cX8_next 55 = .ok (.lstore 6, 2) := by decide +kernel
theorem dX8_next_57 : decode cX8_next 57 = .ok (.iinc 8 1, 3) := by decide +kernel
theorem dX8_next_60 : decode cX8_next 60 = .ok (.goto (-34), 3) := by decide +kernel
theorem dX8_next_63 : decode cX8_next 63 = .ok (.lload 6, 2) := by decide +kernel
theorem dX8_next_65 : decode cX8_next 65 = .ok (.lreturn, 1) := by decide +kernel
theorem dX9_init_0 : decode cX9_init 0 = .ok (.aload_n 0, 1) := by decide +kernel
theorem dX9_init_1 : decode cX9_init 1 = .ok (.invokespecial 3, 3) := by decide +kernel
theorem dX9_init_4 : decode cX9_init 4 = .ok (.aload_n 0, 1) := by decide +kernel
theorem dX9_init_5 : decode cX9_init 5 = .ok (.bipush 16, 2) := by decide +kernel
theorem dX9_init_7 : decode cX9_init 7 = .ok (.newarray .boolean, 2) := by decide +kernel
theorem dX9_init_9 : decode cX9_init 9 = .ok (.putfield 9, 3) := by decide +kernel
theorem dX9_init_12 : decode cX9_init 12 = .ok (.aload_n 0, 1) := by decide +kernel
theorem dX9_init_13 : decode cX9_init 13 = .ok (.bipush 16, 2) := by decide +kernel
theorem dX9_init_15 : decode cX9_init 15 = .ok (.newarray .int, 2) := by decide +kernel
theorem dX9_init_17 : decode cX9_init 17 = .ok (.putfield 15, 3) := by decide +kernel
theorem dX9_init_20 : decode cX9_init 20 = .ok (.return_, 1) := by decide +kernel
set_option maxRecDepth 20000 in
theorem ggX9_begin_X9_beginAnew : GoodIn wsX9_begin wsX9_beginAnew := goodIn_r _ [7, 8, 9, 10, 11, 12, 13, 14, 15] (by decide +kernel) (by decide +kernel)
set_option maxRecDepth 20000 in
theorem gX9_begin_X9_beginAnew : GoodIn wsX9_begin (wsV RX9 26 RX9 yX9_beginAnew wsX9_beginAnew) := goodIn_app (goodIn_of _ (by decide +kernel)) ggX9_begin_X9_beginAnew
theorem dX9_begin_0 : decode cX9_begin 0 = .ok (.aload_n 0, 1) := by decide +kernel
theorem dX9_begin_1 : decode cX9_begin 1 = .ok (.iload_n 1, 1) := by decide +kernel
theorem dX9_begin_2 : decode cX9_begin 2 = .ok (.putfield 19, 3) := by decide +kernel
theorem dX9_begin_5 : decode cX9_begin 5 = .ok (.aload_n 0, 1) := by decide +kernel
theorem dX9_begin_6 : decode cX9_begin 6 = .ok (.iload_n 2, 1) := by decide +kernel
theorem dX9_begin_7 : decode cX9_begin 7 = .ok (.putfield 23, 3) := by decide +kernel
theorem dX9_begin_10 : decode cX9_begin 10 = .ok (.aload_n 0, 1) := by decide +kernel
theorem dX9_begin_11 : decode cX9_begin 11 = .ok (.invokevirtual 26, 3) := by decide +kernel
theorem dX9_begin_14 : decode cX9_begin 14 = .ok (.return_, 1) := by decide +kernel
theorem dX9_beginAnew_0 : decode cX9_beginAnew 0 = .ok (.aload_n 0, 1) := by decide +kernel
theorem dX9_beginAnew_1 : decode cX9_beginAnew 1 = .ok (.iconst 0, 1) := by decide +kernel
theorem dX9_beginAnew_2 : decode cX9_beginAnew 2 = .ok (.putfield 29, 3) := by decide +kernel
theorem dX9_beginAnew_5 : decode cX9_beginAnew 5 = .ok (.iconst 0, 1) := by decide +kernel
theorem dX9_beginAnew_6 : decode cX9_beginAnew 6 = .ok (.istore_n 1, 1) := by decide +kernel
theorem dX9_beginAnew_7 : decode cX9_beginAnew 7 = .ok (.iload_n 1, 1) := by decide +kernel
theorem dX9_beginAnew_8 : decode cX9_beginAnew 8 = .ok (.bipush 16, 2) := by decide +kernel
theorem dX9_beginAnew_10 : decode cX9_beginAnew 10 = .ok (.if_icmp .ge 23, 3) := by decide +kernel
theorem dX9_beginAnew_13 : decode cX9_beginAnew 13 = .ok (.aload_n 0, 1) := by decide +kernel
theorem dX9_beginAnew_14 : decode cX9_beginAnew 14 = .ok (.getfield 9, 3) := by decide +kernel
theorem dX9_beginAnew_17 : decode cX9_beginAnew 17 = .ok (.iload_n 1, 1) := by decide +kernel
theorem dX9_beginAnew_18 : decode cX9_beginAnew 18 = .ok (.iconst 0, 1) := by decide +kernel
theorem dX9_beginAnew_19 : decode cX9_beginAnew 19 = .ok (.bastore, 1) := by decide +kernel
theorem dX9_beginAnew_20 : decode cX9_beginAnew 20 = .ok (.aload_n 0, 1) := by decide +kernel
theorem dX9_beginAnew_21 : decode cX9_beginAnew 21 = .ok (.getfield 15, 3) := by decide +kernel
theorem dX9_beginAnew_24 : decode cX9_beginAnew 24 = .ok (.iload_n 1, 1) := by decide +kernel
theorem dX9_beginAnew_25 : decode cX9_beginAnew 25 = .ok (.iconst 0, 1) := by decide +kernel
theorem dX9_beginAnew_26 : decode cX9_beginAnew 26 = .ok (.iastore, 1) := by decide +kernel
theorem dX9_beginAnew_27 : decode cX9_beginAnew 27 = .ok (.iinc 1 1, 3) := by decide +kernel
theorem dX9_beginAnew_30 : decode cX9_beginAnew 30 = .ok (.goto (-23), 3) := by decide +kernel
theorem dX9_beginAnew_33 : decode cX9_beginAnew 33 = .ok (.return_, 1) := by decide +kernel
set_option maxRecDepth 20000 in
theorem ggX9_turn_X9_nextByHand : GoodIn wsX9_turn wsX9_nextByHand := goodIn_r _ [15, 16, 1, 26, 27, 28, 29, 30] (by decide +kernel) (by decide +kernel)
set_option maxRecDepth 20000 in
theorem gX9_turn_X9_nextByHand : GoodIn wsX9_turn (wsV RX9 41 RX9 yX9_nextByHand wsX9_nextByHand) := goodIn_app (goodIn_of _ (by decide +kernel)) ggX9_turn_X9_nextByHand
set_option maxRecDepth 20000 in
theorem ggX9_turn_X9_leastOftenOn : GoodIn wsX9_turn wsX9_leastOftenOn := goodIn_r _ [20, 1, 9, 21, 26, 27, 28, 29, 30] (by decide +kernel) (by decide +kernel)
set_option maxRecDepth 20000 in
theorem gX9_turn_X9_leastOftenOn : GoodIn wsX9_turn (wsV RX9 45 RX9 yX9_leastOftenOn wsX9_leastOftenOn) := goodIn_app (goodIn_of _ (by decide +kernel)) ggX9_turn_X9_leastOftenOn
set_option maxRecDepth 20000 in
theorem ggX9_turn_X9_switchOn : GoodIn wsX9_turn wsX9_switchOn := goodIn_r _ [25, 9, 21, 26, 27, 28, 29, 30] (by decide +kernel) (by decide +kernel)
set_option maxRecDepth 20000 in
theorem gX9_turn_X9_switchOn : GoodIn wsX9_turn (wsV RX9 48 RX9 yX9_switchOn wsX9_switchOn) := goodIn_app (goodIn_of _ (by decide +kernel)) ggX9_turn_X9_switchOn
theorem dX9_turn_0 : decode cX9_turn 0 = .ok (.iconst 0, 1) := by decide +kernel
theorem dX9_turn_1 : decode cX9_turn 1 = .ok (.iload_n 1, 1) := by decide +kernel
theorem dX9_turn_2 : decode cX9_turn 2 = .ok (.aload_n 0, 1) := by decide +kernel
theorem dX9_turn_3 : decode cX9_turn 3 = .ok (.getfield 19, 3) := by decide +kernel
theorem dX9_turn_6 : decode cX9_turn 6 = .ok (.invokestatic 32, 3) := by decide +kernel
theorem dX9_turn_9 : decode cX9_turn 9 = .ok (.invokestatic 38, 3) := by decide +kernel
theorem dX9_turn_12 : decode cX9_turn 12 = .ok (.istore_n 2, 1) := by decide +kernel
theorem dX9_turn_13 : decode cX9_turn 13 = .ok (.iconst 0, 1) := by decide +kernel
theorem dX9_turn_14 : decode cX9_turn 14 = .ok (.istore_n 3, 1) := by decide +kernel
theorem dX9_turn_15 : decode cX9_turn 15 = .ok (.iload_n 3, 1) := by decide +kernel
theorem dX9_turn_16 : decode cX9_turn 16 = .ok (.aload_n 0, 1) := by decide +kernel
theorem dX9_turn_17 : decode cX9_turn 17 = .ok (.getfield 19, 3) := by decide +kernel
theorem dX9_turn_20 : decode cX9_turn 20 = .ok (.if_icmp .ge 16, 3) := by decide +kernel
theorem dX9_turn_23 : decode cX9_turn 23 = .ok (.aload_n 0, 1) := by decide +kernel
theorem dX9_turn_24 : decode cX9_turn 24 = .ok (.getfield 9, 3) := by decide +kernel
theorem dX9_turn_27 : decode cX9_turn 27 = .ok (.iload_n 3, 1) := by decide +kernel
theorem dX9_turn_28 : decode cX9_turn 28 = .ok (.iconst 0, 1) := by decide +kernel
theorem dX9_turn_29 : decode cX9_turn 29 = .ok (.bastore, 1) := by decide +kernel
theorem dX9_turn_30 : decode cX9_turn 30 = .ok (.iinc 3 1, 3) := by decide +kernel
theorem dX9_turn_33 : decode cX9_turn 33 = .ok (.goto (-18), 3) := by decide +kernel
theorem dX9_turn_36 : decode cX9_turn 36 = .ok (.iconst 0, 1) := by decide +kernel
theorem dX9_turn_37 : decode cX9_turn 37 = .ok (.istore_n 3, 1) := by decide +kernel
theorem dX9_turn_38 : decode cX9_turn 38 = .ok (.iload_n 3, 1) := by decide +kernel
theorem dX9_turn_39 : decode cX9_turn 39 = .ok (.iload_n 2, 1) := by decide +kernel
theorem dX9_turn_40 : decode cX9_turn 40 = .ok (.if_icmp .ge 31, 3) := by decide +kernel
theorem dX9_turn_43 : decode cX9_turn 43 = .ok (.aload_n 0, 1) := by decide +kernel
theorem dX9_turn_44 : decode cX9_turn 44 = .ok (.aload_n 0, 1) := by decide +kernel
theorem dX9_turn_45 : decode cX9_turn 45 = .ok (.getfield 23, 3) := by decide +kernel
theorem dX9_turn_48 : decode cX9_turn 48 = .ok (.ifCond .ne 10, 3) := by decide +kernel
theorem dX9_turn_51 : decode cX9_turn 51 = .ok (.aload_n 0, 1) := by decide +kernel
theorem dX9_turn_52 : decode cX9_turn 52 = .ok (.invokevirtual 41, 3) := by decide +kernel
theorem dX9_turn_55 : decode cX9_turn 55 = .ok (.goto 7, 3) := by decide +kernel
theorem dX9_turn_58 : decode cX9_turn 58 = .ok (.aload_n 0, 1) := by decide +kernel
theorem dX9_turn_59 : decode cX9_turn 59 = .ok (.invokevirtual 45, 3) := by decide +kernel
theorem dX9_turn_62 : decode cX9_turn 62 = .ok (.invokevirtual 48, 3) := by decide +kernel
theorem dX9_turn_65 : decode cX9_turn 65 = .ok (.iinc 3 1, 3) := by decide +kernel
theorem dX9_turn_68 : decode cX9_turn 68 = .ok (.goto (-30), 3) := by decide +kernel
theorem dX9_turn_71 : decode cX9_turn 71 = .ok (.return_, 1) := by decide +kernel
theorem dX9_switchOn_0 : decode cX9_switchOn 0 = .ok (.aload_n 0, 1) := by decide +kernel
theorem dX9_switchOn_1 : decode cX9_switchOn 1 = .ok (.getfield 9, 3) := by decide +kernel
theorem dX9_switchOn_4 : decode cX9_switchOn 4 = .ok (.iload_n 1, 1) := by decide +kernel
theorem dX9_switchOn_5 : decode cX9_switchOn 5 = .ok (.iconst 1, 1) := by decide +kernel
theorem dX9_switchOn_6 : decode cX9_switchOn 6 = .ok (.bastore, 1) := by decide +kernel
theorem dX9_switchOn_7 : decode cX9_switchOn 7 = .ok (.aload_n 0, 1) := by decide +kernel
theorem dX9_switchOn_8 : decode cX9_switchOn 8 = .ok (.getfield 15, 3) := by decide +kernel
theorem dX9_switchOn_11 : decode cX9_switchOn 11 = .ok (.iload_n 1, 1) := by decide +kernel
theorem dX9_switchOn_12 : decode cX9_switchOn 12 = .ok (.dup2, 1) := by decide +kernel
theorem dX9_switchOn_13 : decode cX9_switchOn 13 = .ok (.iaload, 1) := by decide +kernel
theorem dX9_switchOn_14 : decode cX9_switchOn 14 = .ok (.iconst 1, 1) := by decide +kernel
theorem dX9_switchOn_15 : decode cX9_switchOn 15 = .ok (.iadd, 1) := by decide +kernel
theorem dX9_switchOn_16 : decode cX9_switchOn 16 = .ok (.iastore, 1) := by decide +kernel
theorem dX9_switchOn_17 : decode cX9_switchOn 17 = .ok (.return_, 1) := by decide +kernel
theorem dX9_nextByHand_0 : decode cX9_nextByHand 0 = .ok (.aload_n 0, 1) := by decide +kernel
theorem dX9_nextByHand_1 : decode cX9_nextByHand 1 = .ok (.getfield 29, 3) := by decide +kernel
theorem dX9_nextByHand_4 : decode cX9_nextByHand 4 = .ok (.istore_n 1, 1) := by decide +kernel
theorem dX9_nextByHand_5 : decode cX9_nextByHand 5 = .ok (.aload_n 0, 1) := by decide +kernel
theorem dX9_nextByHand_6 : decode cX9_nextByHand 6 = .ok (.iload_n 1, 1) := by decide +kernel
theorem dX9_nextByHand_7 : decode cX9_nextByHand 7 = .ok (.iconst 1, 1) := by decide +kernel
theorem dX9_nextByHand_8 : decode cX9_nextByHand 8 = .ok (.iadd, 1) := by decide +kernel
theorem dX9_nextByHand_9 : decode cX9_nextByHand 9 = .ok (.aload_n 0, 1) := by decide +kernel
theorem dX9_nextByHand_10 : decode cX9_nextByHand 10 = .ok (.getfield 19, 3) := by decide +kernel
theorem dX9_nextByHand_13 : decode cX9_nextByHand 13 = .ok (.if_icmp .ge 9, 3) := by decide +kernel
theorem dX9_nextByHand_16 : decode cX9_nextByHand 16 = .ok (.iload_n 1, 1) := by decide +kernel
theorem dX9_nextByHand_17 : decode cX9_nextByHand 17 = .ok (.iconst 1, 1) := by decide +kernel
theorem dX9_nextByHand_18 : decode cX9_nextByHand 18 = .ok (.iadd, 1) := by decide +kernel
theorem dX9_nextByHand_19 : decode cX9_nextByHand 19 = .ok (.goto 4, 3) := by decide +kernel
theorem dX9_nextByHand_22 : decode cX9_nextByHand 22 = .ok (.iconst 0, 1) := by decide +kernel
theorem dX9_nextByHand_23 : decode cX9_nextByHand 23 = .ok (.putfield 29, 3) := by decide +kernel
theorem dX9_nextByHand_26 : decode cX9_nextByHand 26 = .ok (.iload_n 1, 1) := by decide +kernel
theorem dX9_nextByHand_27 : decode cX9_nextByHand 27 = .ok (.ireturn, 1) := by decide +kernel
theorem dX9_leastOftenOn_0 : decode cX9_leastOftenOn 0 = .ok (.iconst 0, 1) := by decide +kernel
theorem dX9_leastOftenOn_1 : decode cX9_leastOftenOn 1 = .ok (.istore_n 1, 1) := by decide +kernel
theorem dX9_leastOftenOn_2 : decode cX9_leastOftenOn 2 = .ok (.iconst 1, 1) := by decide +kernel
theorem dX9_leastOftenOn_3 : decode cX9_leastOftenOn 3 = .ok (.istore_n 2, 1) := by decide +kernel
theorem dX9_leastOftenOn_4 : decode cX9_leastOftenOn 4 = .ok (.iload_n 2, 1) := by decide +kernel
theorem dX9_leastOftenOn_5 : decode cX9_leastOftenOn 5 = .ok (.aload_n 0, 1) := by decide +kernel
theorem dX9_leastOftenOn_6 : decode cX9_leastOftenOn 6 = .ok (.getfield 19, 3) := by decide +kernel
theorem dX9_leastOftenOn_9 : decode cX9_leastOftenOn 9 = .ok (.if_icmp .ge 44, 3) := by decide +kernel
theorem dX9_leastOftenOn_12 : decode cX9_leastOftenOn 12 = .ok (.aload_n 0, 1) := by decide +kernel
theorem dX9_leastOftenOn_13 : decode cX9_leastOftenOn 13 = .ok (.getfield 9, 3) := by decide +kernel
theorem dX9_leastOftenOn_16 : decode cX9_leastOftenOn 16 = .ok (.iload_n 2, 1) := by decide +kernel
theorem dX9_leastOftenOn_17 : decode cX9_leastOftenOn 17 = .ok (.baload, 1) := by decide +kernel
theorem dX9_leastOftenOn_18 : decode cX9_leastOftenOn 18 = .ok (.ifCond .ne 29, 3) := by decide +kernel
theorem dX9_leastOftenOn_21 : decode cX9_leastOftenOn 21 = .ok (.aload_n 0, 1) := by decide +kernel
theorem dX9_leastOftenOn_22 : decode cX9_leastOftenOn 22 = .ok (.getfield 9, 3) := by decide +kernel
theorem dX9_leastOftenOn_25 : decode cX9_leastOftenOn 25 = .ok (.iload_n 1, 1) := by decide +kernel
theorem dX9_leastOftenOn_26 : decode cX9_leastOftenOn 26 = .ok (.baload, 1) := by decide +kernel
theorem dX9_leastOftenOn_27 : decode cX9_leastOftenOn 27 = .ok (.ifCond .ne 18, 3) := by decide +kernel
theorem dX9_leastOftenOn_30 : decode cX9_leastOftenOn 30 = .ok (.aload_n 0, 1) := by decide +kernel
