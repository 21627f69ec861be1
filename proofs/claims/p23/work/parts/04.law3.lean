set_option maxRecDepth 20000 in
theorem wsL_law0_r11_t : GoodIn lw_tbl wsL_law0_r11 := goodIn_p wsL_law0_r11 [472, 477, 481, 485, 489, 494, 498] (by decide +kernel) (by decide +kernel)
set_option maxRecDepth 20000 in
theorem wsL_law0_r12_t : GoodIn lw_tbl wsL_law0_r12 := goodIn_p wsL_law0_r12 [502, 507, 511, 515, 519, 522] (by decide +kernel) (by decide +kernel)
set_option maxRecDepth 20000 in
theorem wsL_law0_r13_t : GoodIn lw_tbl wsL_law0_r13 := goodIn_p wsL_law0_r13 [529, 533, 537, 542, 546, 549] (by decide +kernel) (by decide +kernel)
set_option maxRecDepth 20000 in
theorem wsL_law0_r14_t : GoodIn lw_tbl wsL_law0_r14 := goodIn_p wsL_law0_r14 [553, 557, 562, 396, 400, 404, 408] (by decide +kernel) (by decide +kernel)
set_option maxRecDepth 20000 in
theorem wsL_law0_r15_t : GoodIn lw_tbl wsL_law0_r15 := goodIn_p wsL_law0_r15 [412, 431] (by decide +kernel) (by decide +kernel)
