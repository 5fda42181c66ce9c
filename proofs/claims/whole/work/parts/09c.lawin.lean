set_option maxRecDepth 20000 in
theorem lin_17 : GoodIn lw_tbl wsL_law_r17 := goodIn_p _ [874, 878, 882, 887, 891, 495] (by decide +kernel) (by decide +kernel)
set_option maxRecDepth 20000 in
theorem lin_18 : GoodIn lw_tbl wsL_law_r18 := goodIn_p _ [896, 499, 900, 503, 507, 511] (by decide +kernel) (by decide +kernel)
set_option maxRecDepth 20000 in
theorem lin_19 : GoodIn lw_tbl wsL_law_r19 := goodIn_p _ [515, 904, 908, 912, 519, 523] (by decide +kernel) (by decide +kernel)
set_option maxRecDepth 20000 in
theorem lin_20 : GoodIn lw_tbl wsL_law_r20 := goodIn_p _ [916, 527, 531, 535, 920] (by decide +kernel) (by decide +kernel)
set_option maxRecDepth 20000 in
theorem lin_21 : GoodIn lw_tbl wsL_law_r21 := goodIn_p _ [541, 545, 549, 552, 557, 561] (by decide +kernel) (by decide +kernel)
set_option maxRecDepth 20000 in
theorem lin_22 : GoodIn lw_tbl wsL_law_r22 := goodIn_p _ [924, 928, 565, 932, 569, 573] (by decide +kernel) (by decide +kernel)
set_option maxRecDepth 20000 in
theorem lin_23 : GoodIn lw_tbl wsL_law_r23 := goodIn_p _ [577, 936, 581, 585, 940, 589] (by decide +kernel) (by decide +kernel)
set_option maxRecDepth 20000 in
theorem lin_24 : GoodIn lw_tbl wsL_law_r24 := goodIn_p _ [593, 597, 603, 608, 612] (by decide +kernel) (by decide +kernel)
