set_option maxRecDepth 20000 in
theorem wsL_law0_r1_t : GoodIn lw_tbl wsL_law0_r1 := goodIn_p wsL_law0_r1 [111, 114] (by decide +kernel) (by decide +kernel)
set_option maxRecDepth 20000 in
theorem wsL_law0_r2_t : GoodIn lw_tbl wsL_law0_r2 := goodIn_p wsL_law0_r2 [119, 148, 167, 722] (by decide +kernel) (by decide +kernel)
set_option maxRecDepth 20000 in
theorem wsL_law0_r3_t : GoodIn lw_tbl wsL_law0_r3 := goodIn_p wsL_law0_r3 [467, 470] (by decide +kernel) (by decide +kernel)
set_option maxRecDepth 20000 in
theorem wsL_law0_r4_t : GoodIn lw_tbl wsL_law0_r4 := goodIn_p wsL_law0_r4 [259, 542, 562, 221, 565] (by decide +kernel) (by decide +kernel)
set_option maxRecDepth 20000 in
theorem wsL_law0_r5_t : GoodIn lw_tbl wsL_law0_r5 := goodIn_p wsL_law0_r5 [196, 213, 200, 204, 207, 210, 585] (by decide +kernel) (by decide +kernel)
set_option maxRecDepth 20000 in
theorem wsL_law0_r6_t : GoodIn lw_tbl wsL_law0_r6 := goodIn_p wsL_law0_r6 [779, 782, 785, 789, 793, 797] (by decide +kernel) (by decide +kernel)
set_option maxRecDepth 20000 in
theorem wsL_law0_r7_t : GoodIn lw_tbl wsL_law0_r7 := goodIn_p wsL_law0_r7 [771, 592, 801, 599, 805] (by decide +kernel) (by decide +kernel)
set_option maxRecDepth 20000 in
theorem wsL_law0_r8_t : GoodIn lw_tbl wsL_law0_r8 := goodIn_p wsL_law0_r8 [606, 611, 276, 615, 809, 813] (by decide +kernel) (by decide +kernel)
set_option maxRecDepth 20000 in
theorem wsL_law0_r9_t : GoodIn lw_tbl wsL_law0_r9 := goodIn_p wsL_law0_r9 [818, 822, 622, 385, 626] (by decide +kernel) (by decide +kernel)
set_option maxRecDepth 20000 in
theorem wsL_law0_r10_t : GoodIn lw_tbl wsL_law0_r10 := goodIn_p wsL_law0_r10 [826, 633, 637, 643, 647, 650] (by decide +kernel) (by decide +kernel)
set_option maxRecDepth 20000 in
theorem wsL_law0_r11_t : GoodIn lw_tbl wsL_law0_r11 := goodIn_p wsL_law0_r11 [225, 339, 284, 288, 292, 304] (by decide +kernel) (by decide +kernel)
