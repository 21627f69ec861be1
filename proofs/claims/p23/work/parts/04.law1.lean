set_option maxRecDepth 20000 in
theorem wsL_law0_r1_t : GoodIn lw_tbl wsL_law0_r1 := goodIn_p wsL_law0_r1 [65, 68] (by decide +kernel) (by decide +kernel)
set_option maxRecDepth 20000 in
theorem wsL_law0_r2_t : GoodIn lw_tbl wsL_law0_r2 := goodIn_p wsL_law0_r2 [73, 102, 121, 416] (by decide +kernel) (by decide +kernel)
set_option maxRecDepth 20000 in
theorem wsL_law0_r3_t : GoodIn lw_tbl wsL_law0_r3 := goodIn_p wsL_law0_r3 [421, 145, 148, 151, 222, 242] (by decide +kernel) (by decide +kernel)
set_option maxRecDepth 20000 in
theorem wsL_law0_r4_t : GoodIn lw_tbl wsL_law0_r4 := goodIn_p wsL_law0_r4 [246, 249, 269, 286, 273] (by decide +kernel) (by decide +kernel)
set_option maxRecDepth 20000 in
theorem wsL_law0_r5_t : GoodIn lw_tbl wsL_law0_r5 := goodIn_p wsL_law0_r5 [277, 280, 283, 290, 294, 298, 302, 307] (by decide +kernel) (by decide +kernel)
