set_option maxRecDepth 20000 in
theorem lin_9 : GoodIn lw_tbl wsL_law_r9 := goodIn_p _ [342, 345, 349, 840, 353, 356, 360] (by decide +kernel) (by decide +kernel)
set_option maxRecDepth 20000 in
theorem lin_10 : GoodIn lw_tbl wsL_law_r10 := goodIn_p _ [364, 368, 372, 378, 844] (by decide +kernel) (by decide +kernel)
set_option maxRecDepth 20000 in
theorem lin_11 : GoodIn lw_tbl wsL_law_r11 := goodIn_p _ [382, 387, 848, 391, 395] (by decide +kernel) (by decide +kernel)
set_option maxRecDepth 20000 in
theorem lin_12 : GoodIn lw_tbl wsL_law_r12 := goodIn_p _ [398, 404, 852, 856, 859] (by decide +kernel) (by decide +kernel)
set_option maxRecDepth 20000 in
theorem lin_13 : GoodIn lw_tbl wsL_law_r13 := goodIn_p _ [408, 411, 416, 420, 424] (by decide +kernel) (by decide +kernel)
set_option maxRecDepth 20000 in
theorem lin_14 : GoodIn lw_tbl wsL_law_r14 := goodIn_p _ [429, 433, 437, 441, 445, 449] (by decide +kernel) (by decide +kernel)
set_option maxRecDepth 20000 in
theorem lin_15 : GoodIn lw_tbl wsL_law_r15 := goodIn_p _ [453, 457, 463, 467, 470, 474] (by decide +kernel) (by decide +kernel)
set_option maxRecDepth 20000 in
theorem lin_16 : GoodIn lw_tbl wsL_law_r16 := goodIn_p _ [478, 482, 486, 490, 865, 868] (by decide +kernel) (by decide +kernel)
