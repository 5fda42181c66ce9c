set_option maxRecDepth 20000 in
theorem lin_1 : GoodIn lw_tbl wsL_law_r1 := goodIn_p _ [47, 50] (by decide +kernel) (by decide +kernel)
set_option maxRecDepth 20000 in
theorem lin_2 : GoodIn lw_tbl wsL_law_r2 := goodIn_p _ [55, 78] (by decide +kernel) (by decide +kernel)
set_option maxRecDepth 20000 in
theorem lin_3 : GoodIn lw_tbl wsL_law_r3 := goodIn_p _ [84, 111] (by decide +kernel) (by decide +kernel)
set_option maxRecDepth 20000 in
theorem lin_4 : GoodIn lw_tbl wsL_law_r4 := goodIn_p _ [140, 146] (by decide +kernel) (by decide +kernel)
set_option maxRecDepth 20000 in
theorem lin_5 : GoodIn lw_tbl wsL_law_r5 := goodIn_p _ [233, 253, 272, 286] (by decide +kernel) (by decide +kernel)
set_option maxRecDepth 20000 in
theorem lin_6 : GoodIn lw_tbl wsL_law_r6 := goodIn_p _ [721] (by decide +kernel) (by decide +kernel)
set_option maxRecDepth 20000 in
theorem lin_7 : GoodIn lw_tbl wsL_law_r7 := goodIn_p _ [322, 326, 330] (by decide +kernel) (by decide +kernel)
set_option maxRecDepth 20000 in
theorem lin_8 : GoodIn lw_tbl wsL_law_r8 := goodIn_p _ [334, 832, 836, 338] (by decide +kernel) (by decide +kernel)
