set_option maxRecDepth 20000 in
theorem wsL_law0_r12_t : GoodIn lw_tbl wsL_law0_r12 := goodIn_p wsL_law0_r12 [300, 312, 316, 830, 834, 837, 841] (by decide +kernel) (by decide +kernel)
set_option maxRecDepth 20000 in
theorem wsL_law0_r13_t : GoodIn lw_tbl wsL_law0_r13 := goodIn_p wsL_law0_r13 [845, 849, 853, 857, 861, 865] (by decide +kernel) (by decide +kernel)
set_option maxRecDepth 20000 in
theorem wsL_law0_r14_t : GoodIn lw_tbl wsL_law0_r14 := goodIn_p wsL_law0_r14 [192, 217, 869, 873, 658, 233] (by decide +kernel) (by decide +kernel)
set_option maxRecDepth 20000 in
theorem wsL_law0_r15_t : GoodIn lw_tbl wsL_law0_r15 := goodIn_p wsL_law0_r15 [662, 877, 229, 237, 881, 241] (by decide +kernel) (by decide +kernel)
set_option maxRecDepth 20000 in
theorem wsL_law0_r16_t : GoodIn lw_tbl wsL_law0_r16 := goodIn_p wsL_law0_r16 [245, 249, 253, 256, 262, 265, 885] (by decide +kernel) (by decide +kernel)
set_option maxRecDepth 20000 in
theorem wsL_law0_r17_t : GoodIn lw_tbl wsL_law0_r17 := goodIn_p wsL_law0_r17 [889, 893, 897, 901, 905] (by decide +kernel) (by decide +kernel)
set_option maxRecDepth 20000 in
theorem wsL_law0_r18_t : GoodIn lw_tbl wsL_law0_r18 := goodIn_p wsL_law0_r18 [670, 674, 678, 910, 685] (by decide +kernel) (by decide +kernel)
set_option maxRecDepth 20000 in
theorem wsL_law0_r19_t : GoodIn lw_tbl wsL_law0_r19 := goodIn_p wsL_law0_r19 [369, 689, 775, 696, 381, 389] (by decide +kernel) (by decide +kernel)
set_option maxRecDepth 20000 in
theorem wsL_law0_r20_t : GoodIn lw_tbl wsL_law0_r20 := goodIn_p wsL_law0_r20 [393, 397, 401, 405, 409, 415] (by decide +kernel) (by decide +kernel)
set_option maxRecDepth 20000 in
theorem wsL_law0_r21_t : GoodIn lw_tbl wsL_law0_r21 := goodIn_p wsL_law0_r21 [914, 918, 922, 703, 434] (by decide +kernel) (by decide +kernel)
set_option maxRecDepth 20000 in
theorem wsL_law0_r22_t : GoodIn lw_tbl wsL_law0_r22 := goodIn_p wsL_law0_r22 [439, 443, 447, 927, 931, 710] (by decide +kernel) (by decide +kernel)
