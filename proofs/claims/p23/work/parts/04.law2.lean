set_option maxRecDepth 20000 in
theorem wsL_law0_r6_t : GoodIn lw_tbl wsL_law0_r6 := goodIn_p wsL_law0_r6 [310, 314, 318, 322, 326, 388, 392] (by decide +kernel) (by decide +kernel)
set_option maxRecDepth 20000 in
theorem wsL_law0_r7_t : GoodIn lw_tbl wsL_law0_r7 := goodIn_p wsL_law0_r7 [352, 565, 568, 425, 330, 334, 340] (by decide +kernel) (by decide +kernel)
set_option maxRecDepth 20000 in
theorem wsL_law0_r8_t : GoodIn lw_tbl wsL_law0_r8 := goodIn_p wsL_law0_r8 [344, 347, 356, 360, 364, 368, 372] (by decide +kernel) (by decide +kernel)
set_option maxRecDepth 20000 in
theorem wsL_law0_r9_t : GoodIn lw_tbl wsL_law0_r9 := goodIn_p wsL_law0_r9 [376, 380, 384, 428, 434, 438] rfl (by decide +kernel)
set_option maxRecDepth 20000 in
theorem wsL_law0_r10_t : GoodIn lw_tbl wsL_law0_r10 := goodIn_p wsL_law0_r10 [442, 446, 450, 454, 458, 462, 466] (by decide +kernel) (by decide +kernel)
