set_option maxRecDepth 20000 in
theorem lin_25 : GoodIn lw_tbl wsL_law_r25 := goodIn_p _ [944, 616, 619, 949, 623, 627] (by decide +kernel) (by decide +kernel)
set_option maxRecDepth 20000 in
theorem lin_26 : GoodIn lw_tbl wsL_law_r26 := goodIn_p _ [631, 953, 636, 640, 957] (by decide +kernel) (by decide +kernel)
set_option maxRecDepth 20000 in
theorem lin_27 : GoodIn lw_tbl wsL_law_r27 := goodIn_p _ [644, 648, 961, 652, 656] (by decide +kernel) (by decide +kernel)
set_option maxRecDepth 20000 in
theorem lin_28 : GoodIn lw_tbl wsL_law_r28 := goodIn_p _ [965, 662, 666, 671, 679, 683] (by decide +kernel) (by decide +kernel)
set_option maxRecDepth 20000 in
theorem lin_29 : GoodIn lw_tbl wsL_law_r29 := goodIn_p _ [969, 974, 687, 691] (by decide +kernel) (by decide +kernel)
set_option maxRecDepth 20000 in
theorem lin_30 : GoodIn lw_tbl wsL_law_r30 := goodIn_p _ [695, 978, 700, 982, 704, 708] (by decide +kernel) (by decide +kernel)
set_option maxRecDepth 20000 in
theorem lin_31 : GoodIn lw_tbl wsL_law_r31 := goodIn_p _ [986, 712, 990, 716, 994] (by decide +kernel) (by decide +kernel)
