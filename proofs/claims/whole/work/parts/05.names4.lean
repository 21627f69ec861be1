theorem dX4_open_40 : decode cX4_open 40 = .ok (.goto (-36), 3) := by decide +kernel
theorem dX4_open_43 : decode cX4_open 43 = .ok (.iload_n 1, 1) := by decide +kernel
theorem dX4_open_44 : decode cX4_open 44 = .ok (.ireturn, 1) := by decide +kernel
set_option maxRecDepth 20000 in
theorem ggX4_wants_X4_of : GoodIn wsX4_wants wsX4_of := goodIn_r _ [5, 6, 11, 12, 13, 14, 15, 16, 17, 18, 19, 20, 21, 22, 23, 24] (by decide +kernel) (by decide +kernel)
set_option maxRecDepth 20000 in
theorem gX4_wants_X4_of : GoodIn wsX4_wants (wsV RX4 43 RX4 yX4_of wsX4_of) := goodIn_app (goodIn_of _ (by decide +kernel)) ggX4_wants_X4_of
set_option maxRecDepth 20000 in
theorem ggX4_wants_X4_isTold : GoodIn wsX4_wants wsX4_isTold := goodIn_r _ [10, 1, 2, 3, 4, 5, 6, 11, 12, 13, 14, 15, 16, 17, 18, 19, 20, 21, 22, 23, 24] (by decide +kernel) (by decide +kernel)
set_option maxRecDepth 20000 in
theorem gX4_wants_X4_isTold : GoodIn wsX4_wants (wsV RX4 51 RX4 yX4_isTold wsX4_isTold) := goodIn_app (goodIn_of _ (by decide +kernel)) ggX4_wants_X4_isTold
theorem dX4_wants_0 : decode cX4_wants 0 = .ok (.aload_n 0, 1) := by decide +kernel
theorem dX4_wants_1 : decode cX4_wants 1 = .ok (.iload_n 1, 1) := by decide +kernel
theorem dX4_wants_2 : decode cX4_wants 2 = .ok (.iconst 0, 1) := by decide +kernel
theorem dX4_wants_3 : decode cX4_wants 3 = .ok (.invokevirtual 43, 3) := by decide +kernel
theorem dX4_wants_6 : decode cX4_wants 6 = .ok (.iconst 3, 1) := by decide +kernel
theorem dX4_wants_7 : decode cX4_wants 7 = .ok (.if_icmp .eq 26, 3) := by decide +kernel
theorem dX4_wants_10 : decode cX4_wants 10 = .ok (.aload_n 0, 1) := by decide +kernel
theorem dX4_wants_11 : decode cX4_wants 11 = .ok (.iload_n 1, 1) := by decide +kernel
theorem dX4_wants_12 : decode cX4_wants 12 = .ok (.iconst 4, 1) := by decide +kernel
theorem dX4_wants_13 : decode cX4_wants 13 = .ok (.invokevirtual 43, 3) := by decide +kernel
theorem dX4_wants_16 : decode cX4_wants 16 = .ok (.iconst (-1), 1) := by decide +kernel
theorem dX4_wants_17 : decode cX4_wants 17 = .ok (.if_icmp .ne 16, 3) := by decide +kernel
theorem dX4_wants_20 : decode cX4_wants 20 = .ok (.aload_n 0, 1) := by decide +kernel
theorem dX4_wants_21 : decode cX4_wants 21 = .ok (.iload_n 1, 1) := by decide +kernel
theorem dX4_wants_22 : decode cX4_wants 22 = .ok (.iload_n 2, 1) := by decide +kernel
theorem dX4_wants_23 : decode cX4_wants 23 = .ok (.invokevirtual 51, 3) := by decide +kernel
theorem dX4_wants_26 : decode cX4_wants 26 = .ok (.ifCond .eq 7, 3) := by decide +kernel
theorem dX4_wants_29 : decode cX4_wants 29 = .ok (.iconst 1, 1) := by decide +kernel
theorem dX4_wants_30 : decode cX4_wants 30 = .ok (.goto 4, 3) := by decide +kernel
theorem dX4_wants_33 : decode cX4_wants 33 = .ok (.iconst 0, 1) := by decide +kernel
theorem dX4_wants_34 : decode cX4_wants 34 = .ok (.ireturn, 1) := by decide +kernel
set_option maxRecDepth 20000 in
theorem ggX4_wanting_X4_wants : GoodIn wsX4_wanting wsX4_wants := goodIn_r _ [6, 7, 8, 9, 5, 10, 1, 11, 12, 13, 14, 15, 16, 17, 18, 19, 20, 21, 22, 23, 24, 25, 26, 27, 28] (by decide +kernel) (by decide +kernel)
set_option maxRecDepth 20000 in
theorem gX4_wanting_X4_wants : GoodIn wsX4_wanting (wsV RX4 61 RX4 yX4_wants wsX4_wants) := goodIn_app (goodIn_of _ (by decide +kernel)) ggX4_wanting_X4_wants
theorem dX4_wanting_0 : decode cX4_wanting 0 = .ok (.iconst 0, 1) := by decide +kernel
theorem dX4_wanting_1 : decode cX4_wanting 1 = .ok (.istore_n 2, 1) := by decide +kernel
theorem dX4_wanting_2 : decode cX4_wanting 2 = .ok (.iconst 0, 1) := by decide +kernel
theorem dX4_wanting_3 : decode cX4_wanting 3 = .ok (.istore_n 3, 1) := by decide +kernel
theorem dX4_wanting_4 : decode cX4_wanting 4 = .ok (.iload_n 3, 1) := by decide +kernel
theorem dX4_wanting_5 : decode cX4_wanting 5 = .ok (.aload_n 0, 1) := by decide +kernel
theorem dX4_wanting_6 : decode cX4_wanting 6 = .ok (.getfield 7, 3) := by decide +kernel
theorem dX4_wanting_9 : decode cX4_wanting 9 = .ok (.iconst 0, 1) := by decide +kernel
theorem dX4_wanting_10 : decode cX4_wanting 10 = .ok (.iaload, 1) := by decide +kernel
theorem dX4_wanting_11 : decode cX4_wanting 11 = .ok (.if_icmp .ge 26, 3) := by decide +kernel
theorem dX4_wanting_14 : decode cX4_wanting 14 = .ok (.iload_n 2, 1) := by decide +kernel
theorem dX4_wanting_15 : decode cX4_wanting 15 = .ok (.aload_n 0, 1) := by decide +kernel
theorem dX4_wanting_16 : decode cX4_wanting 16 = .ok (.iload_n 3, 1) := by decide +kernel
theorem dX4_wanting_17 : decode cX4_wanting 17 = .ok (.iload_n 1, 1) := by decide +kernel
theorem dX4_wanting_18 : decode cX4_wanting 18 = .ok (.invokevirtual 61, 3) := by decide +kernel
theorem dX4_wanting_21 : decode cX4_wanting 21 = .ok (.ifCond .eq 7, 3) := by decide +kernel
theorem dX4_wanting_24 : decode cX4_wanting 24 = .ok (.iconst 1, 1) := by decide +kernel
theorem dX4_wanting_25 : decode cX4_wanting 25 = .ok (.goto 4, 3) := by decide +kernel
theorem dX4_wanting_28 : decode cX4_wanting 28 = .ok (.iconst 0, 1) := by decide +kernel
theorem dX4_wanting_29 : decode cX4_wanting 29 = .ok (.iadd, 1) := by decide +kernel
theorem dX4_wanting_30 : decode cX4_wanting 30 = .ok (.istore_n 2, 1) := by decide +kernel
theorem dX4_wanting_31 : decode cX4_wanting 31 = .ok (.iinc 3 1, 3) := by decide +kernel
theorem dX4_wanting_34 : decode cX4_wanting 34 = .ok (.goto (-30), 3) := by decide +kernel
theorem dX4_wanting_37 : decode cX4_wanting 37 = .ok (.iload_n 2, 1) := by decide +kernel
theorem dX4_wanting_38 : decode cX4_wanting 38 = .ok (.ireturn, 1) := by decide +kernel
set_option maxRecDepth 20000 in
theorem ggX4_firstWanting_X4_wants : GoodIn wsX4_firstWanting wsX4_wants := goodIn_r _ [6, 7, 8, 9, 5, 10, 1, 11, 12, 13, 14, 15, 16, 17, 18, 19, 20, 21, 22, 23, 24, 25, 26, 27, 28] (by decide +kernel) (by decide +kernel)
set_option maxRecDepth 20000 in
theorem gX4_firstWanting_X4_wants : GoodIn wsX4_firstWanting (wsV RX4 61 RX4 yX4_wants wsX4_wants) := goodIn_app (goodIn_of _ (by decide +kernel)) ggX4_firstWanting_X4_wants
theorem dX4_firstWanting_0 : decode cX4_firstWanting 0 = .ok (.iconst (-1), 1) := by decide +kernel
theorem dX4_firstWanting_1 : decode cX4_firstWanting 1 = .ok (.istore_n 2, 1) := by decide +kernel
theorem dX4_firstWanting_2 : decode cX4_firstWanting 2 = .ok (.aload_n 0, 1) := by decide +kernel
theorem dX4_firstWanting_3 : decode cX4_firstWanting 3 = .ok (.getfield 7, 3) := by decide +kernel
theorem dX4_firstWanting_6 : decode cX4_firstWanting 6 = .ok (.iconst 0, 1) := by decide +kernel
theorem dX4_firstWanting_7 : decode cX4_firstWanting 7 = .ok (.iaload, 1) := by decide +kernel
theorem dX4_firstWanting_8 : decode cX4_firstWanting 8 = .ok (.iconst 1, 1) := by decide +kernel
theorem dX4_firstWanting_9 : decode cX4_firstWanting 9 = .ok (.isub, 1) := by decide +kernel
theorem dX4_firstWanting_10 : decode cX4_firstWanting 10 = .ok (.istore_n 3, 1) := by decide +kernel
theorem dX4_firstWanting_11 : decode cX4_firstWanting 11 = .ok (.iload_n 3, 1) := by decide +kernel
theorem dX4_firstWanting_12 : decode cX4_firstWanting 12 = .ok (.ifCond .lt 24, 3) := by decide +kernel
theorem dX4_firstWanting_15 : decode cX4_firstWanting 15 = .ok (.aload_n 0, 1) := by decide +kernel
theorem dX4_firstWanting_16 : decode cX4_firstWanting 16 = .ok (.iload_n 3, 1) := by decide +kernel
theorem dX4_firstWanting_17 : decode cX4_firstWanting 17 = .ok (.iload_n 1, 1) := by decide +kernel
theorem dX4_firstWanting_18 : decode cX4_firstWanting 18 = .ok (.invokevirtual 61, 3) := by decide +kernel
theorem dX4_firstWanting_21 : decode cX4_firstWanting 21 = .ok (.ifCond .eq 7, 3) := by decide +kernel
theorem dX4_firstWanting_24 : decode cX4_firstWanting 24 = .ok (.iload_n 3, 1) := by decide +kernel
theorem dX4_firstWanting_25 : decode cX4_firstWanting 25 = .ok (.goto 4, 3) := by decide +kernel
theorem dX4_firstWanting_28 : decode cX4_firstWanting 28 = .ok (.iload_n 2, 1) := by decide +kernel
theorem dX4_firstWanting_29 : decode cX4_firstWanting 29 = .ok (.istore_n 2, 1) := by decide +kernel
theorem dX4_firstWanting_30 : decode cX4_firstWanting 30 = .ok (.iinc 3 (-1), 3) := by decide +kernel
theorem dX4_firstWanting_33 : decode cX4_firstWanting 33 = .ok (.goto (-22), 3) := by decide +kernel
theorem dX4_firstWanting_36 : decode cX4_firstWanting 36 = .ok (.iload_n 2, 1) := by decide +kernel
theorem dX4_firstWanting_37 : decode cX4_firstWanting 37 = .ok (.ireturn, 1) := by decide +kernel
set_option maxRecDepth 20000 in
theorem ggX4_reckon_X4_of : GoodIn wsX4_reckon wsX4_of := goodIn_r _ [8, 1, 13, 14, 15, 16, 17, 18, 19, 20, 21, 22, 23, 24, 25, 26] (by decide +kernel) (by decide +kernel)
set_option maxRecDepth 20000 in
theorem gX4_reckon_X4_of : GoodIn wsX4_reckon (wsV RX4 43 RX4 yX4_of wsX4_of) := goodIn_app (goodIn_of _ (by decide +kernel)) ggX4_reckon_X4_of
set_option maxRecDepth 20000 in
theorem ggX4_reckon_X4_isTold : GoodIn wsX4_reckon wsX4_isTold := goodIn_r _ [12, 4, 5, 6, 7, 8, 1, 13, 14, 15, 16, 17, 18, 19, 20, 21, 22, 23, 24, 25, 26] (by decide +kernel) (by decide +kernel)
set_option maxRecDepth 20000 in
theorem gX4_reckon_X4_isTold : GoodIn wsX4_reckon (wsV RX4 51 RX4 yX4_isTold wsX4_isTold) := goodIn_app (goodIn_of _ (by decide +kernel)) ggX4_reckon_X4_isTold
theorem dX4_reckon_0 : decode cX4_reckon 0 = .ok (.iconst 0, 1) := by decide +kernel
theorem dX4_reckon_1 : decode cX4_reckon 1 = .ok (.istore_n 2, 1) := by decide +kernel
theorem dX4_reckon_2 : decode cX4_reckon 2 = .ok (.iload_n 2, 1) := by decide +kernel
theorem dX4_reckon_3 : decode cX4_reckon 3 = .ok (.aload_n 0, 1) := by decide +kernel
theorem dX4_reckon_4 : decode cX4_reckon 4 = .ok (.getfield 7, 3) := by decide +kernel
theorem dX4_reckon_7 : decode cX4_reckon 7 = .ok (.iconst 0, 1) := by decide +kernel
theorem dX4_reckon_8 : decode cX4_reckon 8 = .ok (.iaload, 1) := by decide +kernel
theorem dX4_reckon_9 : decode cX4_reckon 9 = .ok (.if_icmp .ge 128, 3) := by decide +kernel
theorem dX4_reckon_12 : decode cX4_reckon 12 = .ok (.aload_n 0, 1) := by decide +kernel
theorem dX4_reckon_13 : decode cX4_reckon 13 = .ok (.getfield 19, 3) := by decide +kernel
theorem dX4_reckon_16 : decode cX4_reckon 16 = .ok (.iload_n 2, 1) := by decide +kernel
theorem dX4_reckon_17 : decode cX4_reckon 17 = .ok (.aload_n 0, 1) := by decide +kernel
theorem dX4_reckon_18 : decode cX4_reckon 18 = .ok (.iload_n 2, 1) := by decide +kernel
theorem dX4_reckon_19 : decode cX4_reckon 19 = .ok (.iconst 0, 1) := by decide +kernel
theorem dX4_reckon_20 : decode cX4_reckon 20 = .ok (.invokevirtual 43, 3) := by decide +kernel
theorem dX4_reckon_23 : decode cX4_reckon 23 = .ok (.ifCond .ne 22, 3) := by decide +kernel
theorem dX4_reckon_26 : decode cX4_reckon 26 = .ok (.aload_n 0, 1) := by decide +kernel
theorem dX4_reckon_27 : decode cX4_reckon 27 = .ok (.iload_n 2, 1) := by decide +kernel
theorem dX4_reckon_28 : decode cX4_reckon 28 = .ok (.iconst 4, 1) := by decide +kernel
theorem dX4_reckon_29 : decode cX4_reckon 29 = .ok (.invokevirtual 43, 3) := by decide +kernel
theorem dX4_reckon_32 : decode cX4_reckon 32 = .ok (.iconst (-1), 1) := by decide +kernel
theorem dX4_reckon_33 : decode cX4_reckon 33 = .ok (.if_icmp .eq 12, 3) := by decide +kernel
theorem dX4_reckon_36 : decode cX4_reckon 36 = .ok (.aload_n 0, 1) := by decide +kernel
theorem dX4_reckon_37 : decode cX4_reckon 37 = .ok (.iload_n 2, 1) := by decide +kernel
theorem dX4_reckon_38 : decode cX4_reckon 38 = .ok (.iconst 4, 1) := by decide +kernel
theorem dX4_reckon_39 : decode cX4_reckon 39 = .ok (.invokevirtual 43, 3) := by decide +kernel
theorem dX4_reckon_42 : decode cX4_reckon 42 = .ok (.goto 4, 3) := by decide +kernel
theorem dX4_reckon_45 : decode cX4_reckon 45 = .ok (.iconst 0, 1) := by decide +kernel
theorem dX4_reckon_46 : decode cX4_reckon 46 = .ok (.iastore, 1) := by decide +kernel
theorem dX4_reckon_47 : decode cX4_reckon 47 = .ok (.aload_n 0, 1) := by decide +kernel
theorem dX4_reckon_48 : decode cX4_reckon 48 = .ok (.iload_n 2, 1) := by decide +kernel
theorem dX4_reckon_49 : decode cX4_reckon 49 = .ok (.iconst 0, 1) := by decide +kernel
theorem dX4_reckon_50 : decode cX4_reckon 50 = .ok (.invokevirtual 43, 3) := by decide +kernel
theorem dX4_reckon_53 : decode cX4_reckon 53 = .ok (.iconst 3, 1) := by decide +kernel
theorem dX4_reckon_54 : decode cX4_reckon 54 = .ok (.if_icmp .ne 77, 3) := by decide +kernel
theorem dX4_reckon_57 : decode cX4_reckon 57 = .ok (.iconst 0, 1) := by decide +kernel
theorem dX4_reckon_58 : decode cX4_reckon 58 = .ok (.istore_n 3, 1) := by decide +kernel
theorem dX4_reckon_59 : decode cX4_reckon 59 = .ok (.iconst 0, 1) := by decide +kernel
theorem dX4_reckon_60 : decode cX4_reckon 60 = .ok (.istore 4, 2) := by decide +kernel
theorem dX4_reckon_62 : decode cX4_reckon 62 = .ok (.iload 4, 2) := by decide +kernel
theorem dX4_reckon_64 : decode cX4_reckon 64 = .ok (.iload_n 2, 1) := by decide +kernel
theorem dX4_reckon_65 : decode cX4_reckon 65 = .ok (.if_icmp .ge 48, 3) := by decide +kernel
theorem dX4_reckon_68 : decode cX4_reckon 68 = .ok (.iload_n 3, 1) := by decide +kernel
theorem dX4_reckon_69 : decode cX4_reckon 69 = .ok (.aload_n 0, 1) := by decide +kernel
theorem dX4_reckon_70 : decode cX4_reckon 70 = .ok (.iload_n 2, 1) := by decide +kernel
theorem dX4_reckon_71 : decode cX4_reckon 71 = .ok (.iconst 2, 1) := by decide +kernel
theorem dX4_reckon_72 : decode cX4_reckon 72 = .ok (.invokevirtual 43, 3) := by decide +kernel
theorem dX4_reckon_75 : decode cX4_reckon 75 = .ok (.iload 4, 2) := by decide +kernel
theorem dX4_reckon_77 : decode cX4_reckon 77 = .ok (.ishr, 1) := by decide +kernel
theorem dX4_reckon_78 : decode cX4_reckon 78 = .ok (.iconst 1, 1) := by decide +kernel
theorem dX4_reckon_79 : decode cX4_reckon 79 = .ok (.iand, 1) := by decide +kernel
theorem dX4_reckon_80 : decode cX4_reckon 80 = .ok (.iconst 1, 1) := by decide +kernel
theorem dX4_reckon_81 : decode cX4_reckon 81 = .ok (.if_icmp .ne 23, 3) := by decide +kernel
theorem dX4_reckon_84 : decode cX4_reckon 84 = .ok (.aload_n 0, 1) := by decide +kernel
theorem dX4_reckon_85 : decode cX4_reckon 85 = .ok (.iload 4, 2) := by decide +kernel
theorem dX4_reckon_87 : decode cX4_reckon 87 = .ok (.iload_n 1, 1) := by decide +kernel
theorem dX4_reckon_88 : decode cX4_reckon 88 = .ok (.invokevirtual 51, 3) := by decide +kernel
theorem dX4_reckon_91 : decode cX4_reckon 91 = .ok (.ifCond .eq 13, 3) := by decide +kernel
theorem dX4_reckon_94 : decode cX4_reckon 94 = .ok (.aload_n 0, 1) := by decide +kernel
theorem dX4_reckon_95 : decode cX4_reckon 95 = .ok (.getfield 19, 3) := by decide +kernel
theorem dX4_reckon_98 : decode cX4_reckon 98 = .ok (.iload 4, 2) := by decide +kernel
theorem dX4_reckon_100 : decode cX4_reckon 100 = .ok (.iaload, 1) := by decide +kernel
theorem dX4_reckon_101 : decode cX4_reckon 101 = .ok (.goto 4, 3) := by decide +kernel
theorem dX4_reckon_104 : decode cX4_reckon 104 = .ok (.iconst 0, 1) := by decide +kernel
theorem dX4_reckon_105 : decode cX4_reckon 105 = .ok (.iadd, 1) := by decide +kernel
theorem dX4_reckon_106 : decode cX4_reckon 106 = .ok (.istore_n 3, 1) := by decide +kernel
theorem dX4_reckon_107 : decode cX4_reckon 107 = .ok (.iinc 4 1, 3) := by decide +kernel
theorem dX4_reckon_110 : decode cX4_reckon 110 = .ok (.goto (-48), 3) := by decide +kernel
theorem dX4_reckon_113 : decode cX4_reckon 113 = .ok (.aload_n 0, 1) := by decide +kernel
theorem dX4_reckon_114 : decode cX4_reckon 114 = .ok (.getfield 19, 3) := by decide +kernel
theorem dX4_reckon_117 : decode cX4_reckon 117 = .ok (.iload_n 2, 1) := by decide +kernel
theorem dX4_reckon_118 : decode cX4_reckon 118 = .ok (.iload_n 3, 1) := by decide +kernel
theorem dX4_reckon_119 : decode cX4_reckon 119 = .ok (.ldc 64, 2) := by decide +kernel
theorem dX4_reckon_121 : decode cX4_reckon 121 = .ok (.if_icmp .le 8, 3) := by decide +kernel
theorem dX4_reckon_124 : decode cX4_reckon 124 = .ok (.ldc 64, 2) := by decide +kernel
theorem dX4_reckon_126 : decode cX4_reckon 126 = .ok (.goto 4, 3) := by decide +kernel
theorem dX4_reckon_129 : decode cX4_reckon 129 = .ok (.iload_n 3, 1) := by decide +kernel
theorem dX4_reckon_130 : decode cX4_reckon 130 = .ok (.iastore, 1) := by decide +kernel
theorem dX4_reckon_131 : decode cX4_reckon 131 = .ok (.iinc 2 1, 3) := by decide +kernel
theorem dX4_reckon_134 : decode cX4_reckon 134 = .ok (.goto (-132), 3) := by decide +kernel
theorem dX4_reckon_137 : decode cX4_reckon 137 = .ok (.return_, 1) := by decide +kernel
set_option maxRecDepth 20000 in
theorem ggX4_add_X4_save : GoodIn wsX4_add wsX4_save := goodIn_r _ [6, 7, 8, 1, 13, 14, 15, 16, 17, 18, 19, 20, 21, 22, 23, 24, 25, 26] (by decide +kernel) (by decide +kernel)
set_option maxRecDepth 20000 in
theorem gX4_add_X4_save : GoodIn wsX4_add (wsV RX4 65 RX4 yX4_save wsX4_save) := goodIn_app (goodIn_of _ (by decide +kernel)) ggX4_add_X4_save
set_option maxRecDepth 20000 in
theorem ggX4_add_X4_lay : GoodIn wsX4_add wsX4_lay := goodIn_r _ [12, 1, 13, 14, 15, 16, 17, 18, 19, 20, 21, 22, 23, 24, 25, 26] (by decide +kernel) (by decide +kernel)
set_option maxRecDepth 20000 in
theorem gX4_add_X4_lay : GoodIn wsX4_add (wsV RX4 68 RX4 yX4_lay wsX4_lay) := goodIn_app (goodIn_of _ (by decide +kernel)) ggX4_add_X4_lay
theorem dX4_add_0 : decode cX4_add 0 = .ok (.aload_n 0, 1) := by decide +kernel
theorem dX4_add_1 : decode cX4_add 1 = .ok (.invokevirtual 65, 3) := by decide +kernel
theorem dX4_add_4 : decode cX4_add 4 = .ok (.aload_n 0, 1) := by decide +kernel
theorem dX4_add_5 : decode cX4_add 5 = .ok (.getfield 7, 3) := by decide +kernel
theorem dX4_add_8 : decode cX4_add 8 = .ok (.iconst 0, 1) := by decide +kernel
theorem dX4_add_9 : decode cX4_add 9 = .ok (.iaload, 1) := by decide +kernel
theorem dX4_add_10 : decode cX4_add 10 = .ok (.istore 5, 2) := by decide +kernel
theorem dX4_add_12 : decode cX4_add 12 = .ok (.aload_n 0, 1) := by decide +kernel
theorem dX4_add_13 : decode cX4_add 13 = .ok (.iload 5, 2) := by decide +kernel
theorem dX4_add_15 : decode cX4_add 15 = .ok (.iconst 0, 1) := by decide +kernel
theorem dX4_add_16 : decode cX4_add 16 = .ok (.iload_n 1, 1) := by decide +kernel
theorem dX4_add_17 : decode cX4_add 17 = .ok (.invokevirtual 68, 3) := by decide +kernel
theorem dX4_add_20 : decode cX4_add 20 = .ok (.aload_n 0, 1) := by decide +kernel
theorem dX4_add_21 : decode cX4_add 21 = .ok (.iload 5, 2) := by decide +kernel
theorem dX4_add_23 : decode cX4_add 23 = .ok (.iconst 1, 1) := by decide +kernel
theorem dX4_add_24 : decode cX4_add 24 = .ok (.iload_n 2, 1) := by decide +kernel
theorem dX4_add_25 : decode cX4_add 25 = .ok (.invokevirtual 68, 3) := by decide +kernel
theorem dX4_add_28 : decode cX4_add 28 = .ok (.aload_n 0, 1) := by decide +kernel
theorem dX4_add_29 : decode cX4_add 29 = .ok (.iload 5, 2) := by decide +kernel
theorem dX4_add_31 : decode cX4_add 31 = .ok (.iconst 2, 1) := by decide +kernel
theorem dX4_add_32 : decode cX4_add 32 = .ok (.iload_n 3, 1) := by decide +kernel
theorem dX4_add_33 : decode cX4_add 33 = .ok (.invokevirtual 68, 3) := by decide +kernel
theorem dX4_add_36 : decode cX4_add 36 = .ok (.aload_n 0, 1) := by decide +kernel
theorem dX4_add_37 : decode cX4_add 37 = .ok (.iload 5, 2) := by decide +kernel
theorem dX4_add_39 : decode cX4_add 39 = .ok (.iconst 3, 1) := by decide +kernel
theorem dX4_add_40 : decode cX4_add 40 = .ok (.iload 4, 2) := by decide +kernel
theorem dX4_add_42 : decode cX4_add 42 = .ok (.invokevirtual 68, 3) := by decide +kernel
theorem dX4_add_45 : decode cX4_add 45 = .ok (.aload_n 0, 1) := by decide +kernel
theorem dX4_add_46 : decode cX4_add 46 = .ok (.iload 5, 2) := by decide +kernel
theorem dX4_add_48 : decode cX4_add 48 = .ok (.iconst 4, 1) := by decide +kernel
theorem dX4_add_49 : decode cX4_add 49 = .ok (.iconst (-1), 1) := by decide +kernel
theorem dX4_add_50 : decode cX4_add 50 = .ok (.invokevirtual 68, 3) := by decide +kernel
theorem dX4_add_53 : decode cX4_add 53 = .ok (.aload_n 0, 1) := by decide +kernel
theorem dX4_add_54 : decode cX4_add 54 = .ok (.getfield 7, 3) := by decide +kernel
theorem dX4_add_57 : decode cX4_add 57 = .ok (.iconst 0, 1) := by decide +kernel
theorem dX4_add_58 : decode cX4_add 58 = .ok (.dup2, 1) := by decide +kernel
theorem dX4_add_59 : decode cX4_add 59 = .ok (.iaload, 1) := by decide +kernel
theorem dX4_add_60 : decode cX4_add 60 = .ok (.iconst 1, 1) := by decide +kernel
theorem dX4_add_61 : decode cX4_add 61 = .ok (.iadd, 1) := by decide +kernel
theorem dX4_add_62 : decode cX4_add 62 = .ok (.iastore, 1) := by decide +kernel
theorem dX4_add_63 : decode cX4_add 63 = .ok (.iload 5, 2) := by decide +kernel
theorem dX4_add_65 : decode cX4_add 65 = .ok (.ireturn, 1) := by decide +kernel
set_option maxRecDepth 20000 in
theorem ggX4_comb_X4_isPart : GoodIn wsX4_comb wsX4_isPart := goodIn_r _ [6, 7, 8, 5, 9] (by decide +kernel) (by decide +kernel)
set_option maxRecDepth 20000 in
theorem gX4_comb_X4_isPart : GoodIn wsX4_comb (va_wsS RX4 72 yX4_isPart wsX4_isPart) := goodIn_app (goodIn_of _ (by decide +kernel)) ggX4_comb_X4_isPart
set_option maxRecDepth 20000 in
theorem ggX4_comb_X4_in : GoodIn wsX4_comb wsX4_in := goodIn_r _ [9] (by decide +kernel) (by decide +kernel)
set_option maxRecDepth 20000 in
theorem gX4_comb_X4_in : GoodIn wsX4_comb (va_wsS RX4 36 yX4_in wsX4_in) := goodIn_app (goodIn_of _ (by decide +kernel)) ggX4_comb_X4_in
set_option maxRecDepth 20000 in
theorem ggX4_comb_X4_add : GoodIn wsX4_comb wsX4_add := goodIn_r _ [13, 1, 14, 15, 16, 5, 17, 18, 19, 20, 21, 22, 23, 24, 25, 26, 27, 28, 29, 30, 31, 32, 33, 34, 35, 36, 37] (by decide +kernel) (by decide +kernel)
set_option maxRecDepth 20000 in
theorem gX4_comb_X4_add : GoodIn wsX4_comb (wsV RX4 75 RX4 yX4_add wsX4_add) := goodIn_app (goodIn_of _ (by decide +kernel)) ggX4_comb_X4_add
theorem dX4_comb_0 : decode cX4_comb 0 = .ok (.aload_n 0, 1) := by decide +kernel
theorem dX4_comb_1 : decode cX4_comb 1 = .ok (.iload_n 1, 1) := by decide +kernel
theorem dX4_comb_2 : decode cX4_comb 2 = .ok (.invokestatic 72, 3) := by decide +kernel
theorem dX4_comb_5 : decode cX4_comb 5 = .ok (.ifCond .ne 7, 3) := by decide +kernel
theorem dX4_comb_8 : decode cX4_comb 8 = .ok (.iconst 1, 1) := by decide +kernel
theorem dX4_comb_9 : decode cX4_comb 9 = .ok (.goto 32, 3) := by decide +kernel
theorem dX4_comb_12 : decode cX4_comb 12 = .ok (.iload_n 2, 1) := by decide +kernel
theorem dX4_comb_13 : decode cX4_comb 13 = .ok (.iconst 1, 1) := by decide +kernel
theorem dX4_comb_14 : decode cX4_comb 14 = .ok (.iconst 5, 1) := by decide +kernel
theorem dX4_comb_15 : decode cX4_comb 15 = .ok (.invokestatic 36, 3) := by decide +kernel
theorem dX4_comb_18 : decode cX4_comb 18 = .ok (.ifCond .ne 7, 3) := by decide +kernel
theorem dX4_comb_21 : decode cX4_comb 21 = .ok (.iconst 2, 1) := by decide +kernel
theorem dX4_comb_22 : decode cX4_comb 22 = .ok (.goto 19, 3) := by decide +kernel
theorem dX4_comb_25 : decode cX4_comb 25 = .ok (.aload_n 0, 1) := by decide +kernel
theorem dX4_comb_26 : decode cX4_comb 26 = .ok (.getfield 7, 3) := by decide +kernel
theorem dX4_comb_29 : decode cX4_comb 29 = .ok (.iconst 0, 1) := by decide +kernel
theorem dX4_comb_30 : decode cX4_comb 30 = .ok (.iaload, 1) := by decide +kernel
theorem dX4_comb_31 : decode cX4_comb 31 = .ok (.bipush 16, 2) := by decide +kernel
theorem dX4_comb_33 : decode cX4_comb 33 = .ok (.if_icmp .ne 7, 3) := by decide +kernel
theorem dX4_comb_36 : decode cX4_comb 36 = .ok (.iconst 3, 1) := by decide +kernel
theorem dX4_comb_37 : decode cX4_comb 37 = .ok (.goto 4, 3) := by decide +kernel
theorem dX4_comb_40 : decode cX4_comb 40 = .ok (.iconst 0, 1) := by decide +kernel
theorem dX4_comb_41 : decode cX4_comb 41 = .ok (.putfield 32, 3) := by decide +kernel
theorem dX4_comb_44 : decode cX4_comb 44 = .ok (.aload_n 0, 1) := by decide +kernel
theorem dX4_comb_45 : decode cX4_comb 45 = .ok (.getfield 32, 3) := by decide +kernel
theorem dX4_comb_48 : decode cX4_comb 48 = .ok (.ifCond .le 7, 3) := by decide +kernel
theorem dX4_comb_51 : decode cX4_comb 51 = .ok (.iconst 0, 1) := by decide +kernel
theorem dX4_comb_52 : decode cX4_comb 52 = .ok (.goto 11, 3) := by decide +kernel
theorem dX4_comb_55 : decode cX4_comb 55 = .ok (.aload_n 0, 1) := by decide +kernel
theorem dX4_comb_56 : decode cX4_comb 56 = .ok (.iconst 0, 1) := by decide +kernel
theorem dX4_comb_57 : decode cX4_comb 57 = .ok (.iload_n 1, 1) := by decide +kernel
theorem dX4_comb_58 : decode cX4_comb 58 = .ok (.iload_n 2, 1) := by decide +kernel
theorem dX4_comb_59 : decode cX4_comb 59 = .ok (.iconst (-1), 1) := by decide +kernel
theorem dX4_comb_60 : decode cX4_comb 60 = .ok (.invokevirtual 75, 3) := by decide +kernel
theorem dX4_comb_63 : decode cX4_comb 63 = .ok (.ireturn, 1) := by decide +kernel
set_option maxRecDepth 20000 in
theorem ggX4_tick_X4_isPart : GoodIn wsX4_tick wsX4_isPart := goodIn_r _ [6, 7, 8, 5, 9] (by decide +kernel) (by decide +kernel)
set_option maxRecDepth 20000 in
theorem gX4_tick_X4_isPart : GoodIn wsX4_tick (va_wsS RX4 72 yX4_isPart wsX4_isPart) := goodIn_app (goodIn_of _ (by decide +kernel)) ggX4_tick_X4_isPart
set_option maxRecDepth 20000 in
theorem ggX4_tick_X4_in : GoodIn wsX4_tick wsX4_in := goodIn_r _ [9] (by decide +kernel) (by decide +kernel)
set_option maxRecDepth 20000 in
theorem gX4_tick_X4_in : GoodIn wsX4_tick (va_wsS RX4 36 yX4_in wsX4_in) := goodIn_app (goodIn_of _ (by decide +kernel)) ggX4_tick_X4_in
set_option maxRecDepth 20000 in
theorem ggX4_tick_X4_add : GoodIn wsX4_tick wsX4_add := goodIn_r _ [13, 1, 14, 15, 16, 5, 17, 18, 19, 20, 21, 22, 23, 24, 25, 26, 27, 28, 29, 30, 31, 32, 33, 34, 35, 36, 37] (by decide +kernel) (by decide +kernel)
set_option maxRecDepth 20000 in
theorem gX4_tick_X4_add : GoodIn wsX4_tick (wsV RX4 75 RX4 yX4_add wsX4_add) := goodIn_app (goodIn_of _ (by decide +kernel)) ggX4_tick_X4_add
theorem dX4_tick_0 : decode cX4_tick 0 = .ok (.aload_n 0, 1) := by decide +kernel
theorem dX4_tick_1 : decode cX4_tick 1 = .ok (.iload_n 1, 1) := by decide +kernel
theorem dX4_tick_2 : decode cX4_tick 2 = .ok (.invokestatic 72, 3) := by decide +kernel
theorem dX4_tick_5 : decode cX4_tick 5 = .ok (.ifCond .ne 7, 3) := by decide +kernel
theorem dX4_tick_8 : decode cX4_tick 8 = .ok (.iconst 1, 1) := by decide +kernel
theorem dX4_tick_9 : decode cX4_tick 9 = .ok (.goto 39, 3) := by decide +kernel
theorem dX4_tick_12 : decode cX4_tick 12 = .ok (.iload_n 2, 1) := by decide +kernel
theorem dX4_tick_13 : decode cX4_tick 13 = .ok (.iconst (-1), 1) := by decide +kernel
theorem dX4_tick_14 : decode cX4_tick 14 = .ok (.if_icmp .eq 18, 3) := by decide +kernel
theorem dX4_tick_17 : decode cX4_tick 17 = .ok (.iload_n 2, 1) := by decide +kernel
theorem dX4_tick_18 : decode cX4_tick 18 = .ok (.iload_n 1, 1) := by decide +kernel
theorem dX4_tick_19 : decode cX4_tick 19 = .ok (.iconst 1, 1) := by decide +kernel
theorem dX4_tick_20 : decode cX4_tick 20 = .ok (.iadd, 1) := by decide +kernel
theorem dX4_tick_21 : decode cX4_tick 21 = .ok (.iconst 4, 1) := by decide +kernel
theorem dX4_tick_22 : decode cX4_tick 22 = .ok (.invokestatic 36, 3) := by decide +kernel
theorem dX4_tick_25 : decode cX4_tick 25 = .ok (.ifCond .ne 7, 3) := by decide +kernel
theorem dX4_tick_28 : decode cX4_tick 28 = .ok (.iconst 2, 1) := by decide +kernel
theorem dX4_tick_29 : decode cX4_tick 29 = .ok (.goto 19, 3) := by decide +kernel
theorem dX4_tick_32 : decode cX4_tick 32 = .ok (.aload_n 0, 1) := by decide +kernel
theorem dX4_tick_33 : decode cX4_tick 33 = .ok (.getfield 7, 3) := by decide +kernel
theorem dX4_tick_36 : decode cX4_tick 36 = .ok (.iconst 0, 1) := by decide +kernel
theorem dX4_tick_37 : decode cX4_tick 37 = .ok (.iaload, 1) := by decide +kernel
theorem dX4_tick_38 : decode cX4_tick 38 = .ok (.bipush 16, 2) := by decide +kernel
theorem dX4_tick_40 : decode cX4_tick 40 = .ok (.if_icmp .ne 7, 3) := by decide +kernel
theorem dX4_tick_43 : decode cX4_tick 43 = .ok (.iconst 3, 1) := by decide +kernel
theorem dX4_tick_44 : decode cX4_tick 44 = .ok (.goto 4, 3) := by decide +kernel
theorem dX4_tick_47 : decode cX4_tick 47 = .ok (.iconst 0, 1) := by decide +kernel
theorem dX4_tick_48 : decode cX4_tick 48 = .ok (.putfield 32, 3) := by decide +kernel
theorem dX4_tick_51 : decode cX4_tick 51 = .ok (.aload_n 0, 1) := by decide +kernel
theorem dX4_tick_52 : decode cX4_tick 52 = .ok (.getfield 32, 3) := by decide +kernel
theorem dX4_tick_55 : decode cX4_tick 55 = .ok (.ifCond .le 7, 3) := by decide +kernel
theorem dX4_tick_58 : decode cX4_tick 58 = .ok (.iconst 0, 1) := by decide +kernel
theorem dX4_tick_59 : decode cX4_tick 59 = .ok (.goto 11, 3) := by decide +kernel
theorem dX4_tick_62 : decode cX4_tick 62 = .ok (.aload_n 0, 1) := by decide +kernel
theorem dX4_tick_63 : decode cX4_tick 63 = .ok (.iconst 1, 1) := by decide +kernel
theorem dX4_tick_64 : decode cX4_tick 64 = .ok (.iload_n 1, 1) := by decide +kernel
theorem dX4_tick_65 : decode cX4_tick 65 = .ok (.iload_n 2, 1) := by decide +kernel
theorem dX4_tick_66 : decode cX4_tick 66 = .ok (.iconst (-1), 1) := by decide +kernel
theorem dX4_tick_67 : decode cX4_tick 67 = .ok (.invokevirtual 75, 3) := by decide +kernel
theorem dX4_tick_70 : decode cX4_tick 70 = .ok (.ireturn, 1) := by decide +kernel
set_option maxRecDepth 20000 in
theorem ggX4_skip_X4_in : GoodIn wsX4_skip wsX4_in := goodIn_r _ [6] (by decide +kernel) (by decide +kernel)
set_option maxRecDepth 20000 in
theorem gX4_skip_X4_in : GoodIn wsX4_skip (va_wsS RX4 36 yX4_in wsX4_in) := goodIn_app (goodIn_of _ (by decide +kernel)) ggX4_skip_X4_in
set_option maxRecDepth 20000 in
theorem ggX4_skip_X4_add : GoodIn wsX4_skip wsX4_add := goodIn_r _ [10, 1, 11, 12, 13, 5, 14, 15, 16, 17, 18, 19, 20, 21, 22, 23, 24, 25, 26, 27, 28, 29, 30, 31, 32, 33, 34] (by decide +kernel) (by decide +kernel)
set_option maxRecDepth 20000 in
theorem gX4_skip_X4_add : GoodIn wsX4_skip (wsV RX4 75 RX4 yX4_add wsX4_add) := goodIn_app (goodIn_of _ (by decide +kernel)) ggX4_skip_X4_add
theorem dX4_skip_0 : decode cX4_skip 0 = .ok (.aload_n 0, 1) := by decide +kernel
theorem dX4_skip_1 : decode cX4_skip 1 = .ok (.iload_n 1, 1) := by decide +kernel
theorem dX4_skip_2 : decode cX4_skip 2 = .ok (.iconst 0, 1) := by decide +kernel
theorem dX4_skip_3 : decode cX4_skip 3 = .ok (.iconst 3, 1) := by decide +kernel
theorem dX4_skip_4 : decode cX4_skip 4 = .ok (.invokestatic 36, 3) := by decide +kernel
theorem dX4_skip_7 : decode cX4_skip 7 = .ok (.ifCond .ne 7, 3) := by decide +kernel
theorem dX4_skip_10 : decode cX4_skip 10 = .ok (.iconst 1, 1) := by decide +kernel
theorem dX4_skip_11 : decode cX4_skip 11 = .ok (.goto 44, 3) := by decide +kernel
theorem dX4_skip_14 : decode cX4_skip 14 = .ok (.iload_n 2, 1) := by decide +kernel
theorem dX4_skip_15 : decode cX4_skip 15 = .ok (.iload_n 1, 1) := by decide +kernel
theorem dX4_skip_16 : decode cX4_skip 16 = .ok (.iconst 1, 1) := by decide +kernel
theorem dX4_skip_17 : decode cX4_skip 17 = .ok (.iadd, 1) := by decide +kernel
theorem dX4_skip_18 : decode cX4_skip 18 = .ok (.iconst 4, 1) := by decide +kernel
theorem dX4_skip_19 : decode cX4_skip 19 = .ok (.invokestatic 36, 3) := by decide +kernel
theorem dX4_skip_22 : decode cX4_skip 22 = .ok (.ifCond .eq 13, 3) := by decide +kernel
theorem dX4_skip_25 : decode cX4_skip 25 = .ok (.iload_n 3, 1) := by decide +kernel
theorem dX4_skip_26 : decode cX4_skip 26 = .ok (.iconst 0, 1) := by decide +kernel
theorem dX4_skip_27 : decode cX4_skip 27 = .ok (.bipush 99, 2) := by decide +kernel
theorem dX4_skip_29 : decode cX4_skip 29 = .ok (.invokestatic 36, 3) := by decide +kernel
theorem dX4_skip_32 : decode cX4_skip 32 = .ok (.ifCond .ne 7, 3) := by decide +kernel
theorem dX4_skip_35 : decode cX4_skip 35 = .ok (.iconst 2, 1) := by decide +kernel
theorem dX4_skip_36 : decode cX4_skip 36 = .ok (.goto 19, 3) := by decide +kernel
theorem dX4_skip_39 : decode cX4_skip 39 = .ok (.aload_n 0, 1) := by decide +kernel
theorem dX4_skip_40 : decode cX4_skip 40 = .ok (.getfield 7, 3) := by decide +kernel
theorem dX4_skip_43 : decode cX4_skip 43 = .ok (.iconst 0, 1) := by decide +kernel
theorem dX4_skip_44 : decode cX4_skip 44 = .ok (.iaload, 1) := by decide +kernel
theorem dX4_skip_45 : decode cX4_skip 45 = .ok (.bipush 16, 2) := by decide +kernel
theorem dX4_skip_47 : decode cX4_skip 47 = .ok (.if_icmp .ne 7, 3) := by decide +kernel
theorem dX4_skip_50 : decode cX4_skip 50 = .ok (.iconst 3, 1) := by decide +kernel
theorem dX4_skip_51 : decode cX4_skip 51 = .ok (.goto 4, 3) := by decide +kernel
theorem dX4_skip_54 : decode cX4_skip 54 = .ok (.iconst 0, 1) := by decide +kernel
theorem dX4_skip_55 : decode cX4_skip 55 = .ok (.putfield 32, 3) := by decide +kernel
theorem dX4_skip_58 : decode cX4_skip 58 = .ok (.aload_n 0, 1) := by decide +kernel
theorem dX4_skip_59 : decode cX4_skip 59 = .ok (.getfield 32, 3) := by decide +kernel
theorem dX4_skip_62 : decode cX4_skip 62 = .ok (.ifCond .le 7, 3) := by decide +kernel
theorem dX4_skip_65 : decode cX4_skip 65 = .ok (.iconst 0, 1) := by decide +kernel
theorem dX4_skip_66 : decode cX4_skip 66 = .ok (.goto 11, 3) := by decide +kernel
theorem dX4_skip_69 : decode cX4_skip 69 = .ok (.aload_n 0, 1) := by decide +kernel
theorem dX4_skip_70 : decode cX4_skip 70 = .ok (.iconst 2, 1) := by decide +kernel
theorem dX4_skip_71 : decode cX4_skip 71 = .ok (.iload_n 1, 1) := by decide +kernel
theorem dX4_skip_72 : decode cX4_skip 72 = .ok (.iload_n 2, 1) := by decide +kernel
theorem dX4_skip_73 : decode cX4_skip 73 = .ok (.iload_n 3, 1) := by decide +kernel
theorem dX4_skip_74 : decode cX4_skip 74 = .ok (.invokevirtual 75, 3) := by decide +kernel
theorem dX4_skip_77 : decode cX4_skip 77 = .ok (.ireturn, 1) := by decide +kernel
set_option maxRecDepth 20000 in
theorem ggX4_isMask_X4_in : GoodIn wsX4_isMask wsX4_in := goodIn_r _ [5] (by decide +kernel) (by decide +kernel)
set_option maxRecDepth 20000 in
theorem gX4_isMask_X4_in : GoodIn wsX4_isMask (va_wsS RX4 36 yX4_in wsX4_in) := goodIn_app (goodIn_of _ (by decide +kernel)) ggX4_isMask_X4_in
set_option maxRecDepth 20000 in
theorem ggX4_isMask_X4_isBox : GoodIn wsX4_isMask wsX4_isBox := goodIn_r _ [9, 10, 15, 16, 17, 18, 19, 20, 21, 22, 23, 24, 25, 26, 27, 28] (by decide +kernel) (by decide +kernel)
set_option maxRecDepth 20000 in
theorem gX4_isMask_X4_isBox : GoodIn wsX4_isMask (wsV RX4 80 RX4 yX4_isBox wsX4_isBox) := goodIn_app (goodIn_of _ (by decide +kernel)) ggX4_isMask_X4_isBox
set_option maxRecDepth 20000 in
theorem ggX4_isMask_X4_of : GoodIn wsX4_isMask wsX4_of := goodIn_r _ [14, 10, 15, 16, 17, 18, 19, 20, 21, 22, 23, 24, 25, 26, 27, 28] (by decide +kernel) (by decide +kernel)
set_option maxRecDepth 20000 in
theorem gX4_isMask_X4_of : GoodIn wsX4_isMask (wsV RX4 43 RX4 yX4_of wsX4_of) := goodIn_app (goodIn_of _ (by decide +kernel)) ggX4_isMask_X4_of
theorem dX4_isMask_0 : decode cX4_isMask 0 = .ok (.iload_n 1, 1) := by decide +kernel
theorem dX4_isMask_1 : decode cX4_isMask 1 = .ok (.iconst 0, 1) := by decide +kernel
theorem dX4_isMask_2 : decode cX4_isMask 2 = .ok (.ldc 79, 2) := by decide +kernel
theorem dX4_isMask_4 : decode cX4_isMask 4 = .ok (.invokestatic 36, 3) := by decide +kernel
theorem dX4_isMask_7 : decode cX4_isMask 7 = .ok (.istore_n 2, 1) := by decide +kernel
theorem dX4_isMask_8 : decode cX4_isMask 8 = .ok (.iconst 0, 1) := by decide +kernel
theorem dX4_isMask_9 : decode cX4_isMask 9 = .ok (.istore_n 3, 1) := by decide +kernel
theorem dX4_isMask_10 : decode cX4_isMask 10 = .ok (.iload_n 3, 1) := by decide +kernel
theorem dX4_isMask_11 : decode cX4_isMask 11 = .ok (.bipush 16, 2) := by decide +kernel
theorem dX4_isMask_13 : decode cX4_isMask 13 = .ok (.if_icmp .ge 54, 3) := by decide +kernel
theorem dX4_isMask_16 : decode cX4_isMask 16 = .ok (.iload_n 2, 1) := by decide +kernel
theorem dX4_isMask_17 : decode cX4_isMask 17 = .ok (.ifCond .eq 50, 3) := by decide +kernel
theorem dX4_isMask_20 : decode cX4_isMask 20 = .ok (.iload_n 1, 1) := by decide +kernel
theorem dX4_isMask_21 : decode cX4_isMask 21 = .ok (.iload_n 3, 1) := by decide +kernel
theorem dX4_isMask_22 : decode cX4_isMask 22 = .ok (.ishr, 1) := by decide +kernel
theorem dX4_isMask_23 : decode cX4_isMask 23 = .ok (.iconst 1, 1) := by decide +kernel
theorem dX4_isMask_24 : decode cX4_isMask 24 = .ok (.iand, 1) := by decide +kernel
theorem dX4_isMask_25 : decode cX4_isMask 25 = .ok (.ifCond .eq 30, 3) := by decide +kernel
theorem dX4_isMask_28 : decode cX4_isMask 28 = .ok (.aload_n 0, 1) := by decide +kernel
theorem dX4_isMask_29 : decode cX4_isMask 29 = .ok (.iload_n 3, 1) := by decide +kernel
theorem dX4_isMask_30 : decode cX4_isMask 30 = .ok (.invokevirtual 80, 3) := by decide +kernel
theorem dX4_isMask_33 : decode cX4_isMask 33 = .ok (.ifCond .eq 26, 3) := by decide +kernel
theorem dX4_isMask_36 : decode cX4_isMask 36 = .ok (.aload_n 0, 1) := by decide +kernel
theorem dX4_isMask_37 : decode cX4_isMask 37 = .ok (.iload_n 3, 1) := by decide +kernel
theorem dX4_isMask_38 : decode cX4_isMask 38 = .ok (.iconst 0, 1) := by decide +kernel
theorem dX4_isMask_39 : decode cX4_isMask 39 = .ok (.invokevirtual 43, 3) := by decide +kernel
theorem dX4_isMask_42 : decode cX4_isMask 42 = .ok (.ifCond .eq 13, 3) := by decide +kernel
theorem dX4_isMask_45 : decode cX4_isMask 45 = .ok (.aload_n 0, 1) := by decide +kernel
theorem dX4_isMask_46 : decode cX4_isMask 46 = .ok (.iload_n 3, 1) := by decide +kernel
theorem dX4_isMask_47 : decode cX4_isMask 47 = .ok (.iconst 0, 1) := by decide +kernel
theorem dX4_isMask_48 : decode cX4_isMask 48 = .ok (.invokevirtual 43, 3) := by decide +kernel
theorem dX4_isMask_51 : decode cX4_isMask 51 = .ok (.iconst 3, 1) := by decide +kernel
theorem dX4_isMask_52 : decode cX4_isMask 52 = .ok (.if_icmp .ne 7, 3) := by decide +kernel
theorem dX4_isMask_55 : decode cX4_isMask 55 = .ok (.iconst 1, 1) := by decide +kernel
theorem dX4_isMask_56 : decode cX4_isMask 56 = .ok (.goto 4, 3) := by decide +kernel
theorem dX4_isMask_59 : decode cX4_isMask 59 = .ok (.iconst 0, 1) := by decide +kernel
theorem dX4_isMask_60 : decode cX4_isMask 60 = .ok (.istore_n 2, 1) := by decide +kernel
theorem dX4_isMask_61 : decode cX4_isMask 61 = .ok (.iinc 3 1, 3) := by decide +kernel
theorem dX4_isMask_64 : decode cX4_isMask 64 = .ok (.goto (-54), 3) := by decide +kernel
theorem dX4_isMask_67 : decode cX4_isMask 67 = .ok (.iload_n 2, 1) := by decide +kernel
theorem dX4_isMask_68 : decode cX4_isMask 68 = .ok (.ireturn, 1) := by decide +kernel
set_option maxRecDepth 20000 in
theorem ggX4_total_X4_isPart : GoodIn wsX4_total wsX4_isPart := goodIn_r _ [6, 7, 8, 5, 9] (by decide +kernel) (by decide +kernel)
set_option maxRecDepth 20000 in
theorem gX4_total_X4_isPart : GoodIn wsX4_total (va_wsS RX4 72 yX4_isPart wsX4_isPart) := goodIn_app (goodIn_of _ (by decide +kernel)) ggX4_total_X4_isPart
set_option maxRecDepth 20000 in
theorem ggX4_total_X4_isMask : GoodIn wsX4_total wsX4_isMask := goodIn_r _ [13, 14, 7, 8, 5, 9, 15, 16, 17, 18, 1, 19, 20, 21, 22, 37, 38, 39, 40, 41, 42, 43, 44, 45, 46, 47, 48, 49, 50] (by decide +kernel) (by decide +kernel)
set_option maxRecDepth 20000 in
theorem gX4_total_X4_isMask : GoodIn wsX4_total (wsV RX4 83 RX4 yX4_isMask wsX4_isMask) := goodIn_app (goodIn_of _ (by decide +kernel)) ggX4_total_X4_isMask
set_option maxRecDepth 20000 in
theorem ggX4_total_X4_add : GoodIn wsX4_total wsX4_add := goodIn_r _ [26, 1, 27, 28, 29, 5, 30, 31, 32, 33, 34, 35, 36, 37, 38, 39, 40, 41, 42, 43, 44, 45, 46, 47, 48, 49, 50] (by decide +kernel) (by decide +kernel)
set_option maxRecDepth 20000 in
theorem gX4_total_X4_add : GoodIn wsX4_total (wsV RX4 75 RX4 yX4_add wsX4_add) := goodIn_app (goodIn_of _ (by decide +kernel)) ggX4_total_X4_add
theorem dX4_total_0 : decode cX4_total 0 = .ok (.aload_n 0, 1) := by decide +kernel
theorem dX4_total_1 : decode cX4_total 1 = .ok (.iload_n 1, 1) := by decide +kernel
theorem dX4_total_2 : decode cX4_total 2 = .ok (.invokestatic 72, 3) := by decide +kernel
theorem dX4_total_5 : decode cX4_total 5 = .ok (.ifCond .ne 7, 3) := by decide +kernel
theorem dX4_total_8 : decode cX4_total 8 = .ok (.iconst 1, 1) := by decide +kernel
theorem dX4_total_9 : decode cX4_total 9 = .ok (.goto 31, 3) := by decide +kernel
theorem dX4_total_12 : decode cX4_total 12 = .ok (.aload_n 0, 1) := by decide +kernel
theorem dX4_total_13 : decode cX4_total 13 = .ok (.iload_n 2, 1) := by decide +kernel
theorem dX4_total_14 : decode cX4_total 14 = .ok (.invokevirtual 83, 3) := by decide +kernel
theorem dX4_total_17 : decode cX4_total 17 = .ok (.ifCond .ne 7, 3) := by decide +kernel
theorem dX4_total_20 : decode cX4_total 20 = .ok (.iconst 2, 1) := by decide +kernel
theorem dX4_total_21 : decode cX4_total 21 = .ok (.goto 19, 3) := by decide +kernel
theorem dX4_total_24 : decode cX4_total 24 = .ok (.aload_n 0, 1) := by decide +kernel
theorem dX4_total_25 : decode cX4_total 25 = .ok (.getfield 7, 3) := by decide +kernel
theorem dX4_total_28 : decode cX4_total 28 = .ok (.iconst 0, 1) := by decide +kernel
theorem dX4_total_29 : decode cX4_total 29 = .ok (.iaload, 1) := by decide +kernel
theorem dX4_total_30 : decode cX4_total 30 = .ok (.bipush 16, 2) := by decide +kernel
theorem dX4_total_32 : decode cX4_total 32 = .ok (.if_icmp .ne 7, 3) := by decide +kernel
theorem dX4_total_35 : decode cX4_total 35 = .ok (.iconst 3, 1) := by decide +kernel
theorem dX4_total_36 : decode cX4_total 36 = .ok (.goto 4, 3) := by decide +kernel
theorem dX4_total_39 : decode cX4_total 39 = .ok (.iconst 0, 1) := by decide +kernel
theorem dX4_total_40 : decode cX4_total 40 = .ok (.putfield 32, 3) := by decide +kernel
theorem dX4_total_43 : decode cX4_total 43 = .ok (.aload_n 0, 1) := by decide +kernel
theorem dX4_total_44 : decode cX4_total 44 = .ok (.getfield 32, 3) := by decide +kernel
theorem dX4_total_47 : decode cX4_total 47 = .ok (.ifCond .le 7, 3) := by decide +kernel
theorem dX4_total_50 : decode cX4_total 50 = .ok (.iconst 0, 1) := by decide +kernel
theorem dX4_total_51 : decode cX4_total 51 = .ok (.goto 11, 3) := by decide +kernel
theorem dX4_total_54 : decode cX4_total 54 = .ok (.aload_n 0, 1) := by decide +kernel
theorem dX4_total_55 : decode cX4_total 55 = .ok (.iconst 3, 1) := by decide +kernel
theorem dX4_total_56 : decode cX4_total 56 = .ok (.iload_n 1, 1) := by decide +kernel
theorem dX4_total_57 : decode cX4_total 57 = .ok (.iload_n 2, 1) := by decide +kernel
theorem dX4_total_58 : decode cX4_total 58 = .ok (.iconst (-1), 1) := by decide +kernel
theorem dX4_total_59 : decode cX4_total 59 = .ok (.invokevirtual 75, 3) := by decide +kernel
theorem dX4_total_62 : decode cX4_total 62 = .ok (.ireturn, 1) := by decide +kernel
set_option maxRecDepth 20000 in
theorem ggX4_drop_X4_save : GoodIn wsX4_drop wsX4_save := goodIn_r _ [7, 8, 9, 1, 14, 15, 16, 17, 18, 19, 20, 21, 22, 23, 24, 25, 26, 27] (by decide +kernel) (by decide +kernel)
set_option maxRecDepth 20000 in
theorem gX4_drop_X4_save : GoodIn wsX4_drop (wsV RX4 65 RX4 yX4_save wsX4_save) := goodIn_app (goodIn_of _ (by decide +kernel)) ggX4_drop_X4_save
set_option maxRecDepth 20000 in
theorem ggX4_drop_X4_of : GoodIn wsX4_drop wsX4_of := goodIn_r _ [13, 1, 14, 15, 16, 17, 18, 19, 20, 21, 22, 23, 24, 25, 26, 27] (by decide +kernel) (by decide +kernel)
set_option maxRecDepth 20000 in
theorem gX4_drop_X4_of : GoodIn wsX4_drop (wsV RX4 43 RX4 yX4_of wsX4_of) := goodIn_app (goodIn_of _ (by decide +kernel)) ggX4_drop_X4_of
theorem dX4_drop_0 : decode cX4_drop 0 = .ok (.aload_n 0, 1) := by decide +kernel
theorem dX4_drop_1 : decode cX4_drop 1 = .ok (.aload_n 0, 1) := by decide +kernel
theorem dX4_drop_2 : decode cX4_drop 2 = .ok (.getfield 7, 3) := by decide +kernel
theorem dX4_drop_5 : decode cX4_drop 5 = .ok (.iconst 0, 1) := by decide +kernel
theorem dX4_drop_6 : decode cX4_drop 6 = .ok (.iaload, 1) := by decide +kernel
theorem dX4_drop_7 : decode cX4_drop 7 = .ok (.ifCond .ne 7, 3) := by decide +kernel
theorem dX4_drop_10 : decode cX4_drop 10 = .ok (.iconst 1, 1) := by decide +kernel
theorem dX4_drop_11 : decode cX4_drop 11 = .ok (.goto 4, 3) := by decide +kernel
theorem dX4_drop_14 : decode cX4_drop 14 = .ok (.iconst 0, 1) := by decide +kernel
theorem dX4_drop_15 : decode cX4_drop 15 = .ok (.putfield 32, 3) := by decide +kernel
theorem dX4_drop_18 : decode cX4_drop 18 = .ok (.aload_n 0, 1) := by decide +kernel
theorem dX4_drop_19 : decode cX4_drop 19 = .ok (.getfield 32, 3) := by decide +kernel
theorem dX4_drop_22 : decode cX4_drop 22 = .ok (.ifCond .le 5, 3) := by decide +kernel
theorem dX4_drop_25 : decode cX4_drop 25 = .ok (.iconst 0, 1) := by decide +kernel
theorem dX4_drop_26 : decode cX4_drop 26 = .ok (.ireturn, 1) := by decide +kernel
theorem dX4_drop_27 : decode cX4_drop 27 = .ok (.aload_n 0, 1) := by decide +kernel
theorem dX4_drop_28 : decode cX4_drop 28 = .ok (.invokevirtual 65, 3) := by decide +kernel
theorem dX4_drop_31 : decode cX4_drop 31 = .ok (.aload_n 0, 1) := by decide +kernel
theorem dX4_drop_32 : decode cX4_drop 32 = .ok (.getfield 7, 3) := by decide +kernel
theorem dX4_drop_35 : decode cX4_drop 35 = .ok (.iconst 0, 1) := by decide +kernel
theorem dX4_drop_36 : decode cX4_drop 36 = .ok (.dup2, 1) := by decide +kernel
theorem dX4_drop_37 : decode cX4_drop 37 = .ok (.iaload, 1) := by decide +kernel
theorem dX4_drop_38 : decode cX4_drop 38 = .ok (.iconst 1, 1) := by decide +kernel
theorem dX4_drop_39 : decode cX4_drop 39 = .ok (.isub, 1) := by decide +kernel
theorem dX4_drop_40 : decode cX4_drop 40 = .ok (.iastore, 1) := by decide +kernel
theorem dX4_drop_41 : decode cX4_drop 41 = .ok (.aload_n 0, 1) := by decide +kernel
theorem dX4_drop_42 : decode cX4_drop 42 = .ok (.aload_n 0, 1) := by decide +kernel
theorem dX4_drop_43 : decode cX4_drop 43 = .ok (.getfield 7, 3) := by decide +kernel
theorem dX4_drop_46 : decode cX4_drop 46 = .ok (.iconst 0, 1) := by decide +kernel
theorem dX4_drop_47 : decode cX4_drop 47 = .ok (.iaload, 1) := by decide +kernel
theorem dX4_drop_48 : decode cX4_drop 48 = .ok (.iconst 0, 1) := by decide +kernel
theorem dX4_drop_49 : decode cX4_drop 49 = .ok (.invokevirtual 43, 3) := by decide +kernel
theorem dX4_drop_52 : decode cX4_drop 52 = .ok (.ireturn, 1) := by decide +kernel
theorem dX4_power_0 : decode cX4_power 0 = .ok (.iconst 1, 1) := by decide +kernel
theorem dX4_power_1 : decode cX4_power 1 = .ok (.istore_n 1, 1) := by decide +kernel
theorem dX4_power_2 : decode cX4_power 2 = .ok (.iconst 0, 1) := by decide +kernel
theorem dX4_power_3 : decode cX4_power 3 = .ok (.istore_n 2, 1) := by decide +kernel
theorem dX4_power_4 : decode cX4_power 4 = .ok (.iload_n 2, 1) := by decide +kernel
theorem dX4_power_5 : decode cX4_power 5 = .ok (.iload_n 0, 1) := by decide +kernel
theorem dX4_power_6 : decode cX4_power 6 = .ok (.if_icmp .ge 14, 3) := by decide +kernel
theorem dX4_power_9 : decode cX4_power 9 = .ok (.iload_n 1, 1) := by decide +kernel
theorem dX4_power_10 : decode cX4_power 10 = .ok (.bipush 10, 2) := by decide +kernel
theorem dX4_power_12 : decode cX4_power 12 = .ok (.imul, 1) := by decide +kernel
theorem dX4_power_13 : decode cX4_power 13 = .ok (.istore_n 1, 1) := by decide +kernel
theorem dX4_power_14 : decode cX4_power 14 = .ok (.iinc 2 1, 3) := by decide +kernel
theorem dX4_power_17 : decode cX4_power 17 = .ok (.goto (-13), 3) := by decide +kernel
theorem dX4_power_20 : decode cX4_power 20 = .ok (.iload_n 1, 1) := by decide +kernel
theorem dX4_power_21 : decode cX4_power 21 = .ok (.ireturn, 1) := by decide +kernel
set_option maxRecDepth 20000 in
theorem ggX4_canHave_X4_of : GoodIn wsX4_canHave wsX4_of := goodIn_r _ [5, 6, 13, 14, 15, 16, 17, 18, 19, 20, 21, 22, 23, 24, 25, 26] (by decide +kernel) (by decide +kernel)
set_option maxRecDepth 20000 in
theorem gX4_canHave_X4_of : GoodIn wsX4_canHave (wsV RX4 43 RX4 yX4_of wsX4_of) := goodIn_app (goodIn_of _ (by decide +kernel)) ggX4_canHave_X4_of
set_option maxRecDepth 20000 in
theorem ggX4_canHave_X4_power : GoodIn wsX4_canHave wsX4_power := goodIn_r _ [9] (by decide +kernel) (by decide +kernel)
set_option maxRecDepth 20000 in
theorem gX4_canHave_X4_power : GoodIn wsX4_canHave (va_wsS RX4 86 yX4_power wsX4_power) := goodIn_app (goodIn_of _ (by decide +kernel)) ggX4_canHave_X4_power
set_option maxRecDepth 20000 in
theorem ggX4_canHave_X4_in : GoodIn wsX4_canHave wsX4_in := goodIn_r _ [12] (by decide +kernel) (by decide +kernel)
set_option maxRecDepth 20000 in
theorem gX4_canHave_X4_in : GoodIn wsX4_canHave (va_wsS RX4 36 yX4_in wsX4_in) := goodIn_app (goodIn_of _ (by decide +kernel)) ggX4_canHave_X4_in
theorem dX4_canHave_0 : decode cX4_canHave 0 = .ok (.aload_n 0, 1) := by decide +kernel
theorem dX4_canHave_1 : decode cX4_canHave 1 = .ok (.iload_n 1, 1) := by decide +kernel
theorem dX4_canHave_2 : decode cX4_canHave 2 = .ok (.iconst 0, 1) := by decide +kernel
theorem dX4_canHave_3 : decode cX4_canHave 3 = .ok (.invokevirtual 43, 3) := by decide +kernel
theorem dX4_canHave_6 : decode cX4_canHave 6 = .ok (.tableswitch 71 0 2 #[26, 56, 63], 26) := by decide +kernel
theorem dX4_canHave_32 : decode cX4_canHave 32 = .ok (.iload_n 2, 1) := by decide +kernel
theorem dX4_canHave_33 : decode cX4_canHave 33 = .ok (.iconst (-1), 1) := by decide +kernel
theorem dX4_canHave_34 : decode cX4_canHave 34 = .ok (.if_icmp .eq 22, 3) := by decide +kernel
theorem dX4_canHave_37 : decode cX4_canHave 37 = .ok (.iload_n 2, 1) := by decide +kernel
theorem dX4_canHave_38 : decode cX4_canHave 38 = .ok (.iconst 0, 1) := by decide +kernel
theorem dX4_canHave_39 : decode cX4_canHave 39 = .ok (.aload_n 0, 1) := by decide +kernel
theorem dX4_canHave_40 : decode cX4_canHave 40 = .ok (.iload_n 1, 1) := by decide +kernel
theorem dX4_canHave_41 : decode cX4_canHave 41 = .ok (.iconst 2, 1) := by decide +kernel
theorem dX4_canHave_42 : decode cX4_canHave 42 = .ok (.invokevirtual 43, 3) := by decide +kernel
theorem dX4_canHave_45 : decode cX4_canHave 45 = .ok (.invokestatic 86, 3) := by decide +kernel
theorem dX4_canHave_48 : decode cX4_canHave 48 = .ok (.iconst 1, 1) := by decide +kernel
theorem dX4_canHave_49 : decode cX4_canHave 49 = .ok (.isub, 1) := by decide +kernel
theorem dX4_canHave_50 : decode cX4_canHave 50 = .ok (.invokestatic 36, 3) := by decide +kernel
theorem dX4_canHave_53 : decode cX4_canHave 53 = .ok (.ifCond .eq 7, 3) := by decide +kernel
theorem dX4_canHave_56 : decode cX4_canHave 56 = .ok (.iconst 1, 1) := by decide +kernel
theorem dX4_canHave_57 : decode cX4_canHave 57 = .ok (.goto 4, 3) := by decide +kernel
theorem dX4_canHave_60 : decode cX4_canHave 60 = .ok (.iconst 0, 1) := by decide +kernel
theorem dX4_canHave_61 : decode cX4_canHave 61 = .ok (.ireturn, 1) := by decide +kernel
theorem dX4_canHave_62 : decode cX4_canHave 62 = .ok (.iload_n 2, 1) := by decide +kernel
theorem dX4_canHave_63 : decode cX4_canHave 63 = .ok (.iconst (-1), 1) := by decide +kernel
theorem dX4_canHave_64 : decode cX4_canHave 64 = .ok (.iconst 1, 1) := by decide +kernel
theorem dX4_canHave_65 : decode cX4_canHave 65 = .ok (.invokestatic 36, 3) := by decide +kernel
theorem dX4_canHave_68 : decode cX4_canHave 68 = .ok (.ireturn, 1) := by decide +kernel
theorem dX4_canHave_69 : decode cX4_canHave 69 = .ok (.iload_n 2, 1) := by decide +kernel
theorem dX4_canHave_70 : decode cX4_canHave 70 = .ok (.iconst (-1), 1) := by decide +kernel
theorem dX4_canHave_71 : decode cX4_canHave 71 = .ok (.bipush 99, 2) := by decide +kernel
theorem dX4_canHave_73 : decode cX4_canHave 73 = .ok (.invokestatic 36, 3) := by decide +kernel
theorem dX4_canHave_76 : decode cX4_canHave 76 = .ok (.ireturn, 1) := by decide +kernel
theorem dX4_canHave_77 : decode cX4_canHave 77 = .ok (.iload_n 2, 1) := by decide +kernel
theorem dX4_canHave_78 : decode cX4_canHave 78 = .ok (.iconst (-1), 1) := by decide +kernel
theorem dX4_canHave_79 : decode cX4_canHave 79 = .ok (.if_icmp .ne 7, 3) := by decide +kernel
theorem dX4_canHave_82 : decode cX4_canHave 82 = .ok (.iconst 1, 1) := by decide +kernel
theorem dX4_canHave_83 : decode cX4_canHave 83 = .ok (.goto 4, 3) := by decide +kernel
theorem dX4_canHave_86 : decode cX4_canHave 86 = .ok (.iconst 0, 1) := by decide +kernel
theorem dX4_canHave_87 : decode cX4_canHave 87 = .ok (.ireturn, 1) := by decide +kernel
set_option maxRecDepth 20000 in
theorem ggX4_answer_X4_isBox : GoodIn wsX4_answer wsX4_isBox := goodIn_r _ [6, 7, 60, 61, 62, 63, 64, 65, 66, 67, 68, 69, 70, 71, 72, 73] (by decide +kernel) (by decide +kernel)
set_option maxRecDepth 20000 in
theorem gX4_answer_X4_isBox : GoodIn wsX4_answer (wsV RX4 80 RX4 yX4_isBox wsX4_isBox) := goodIn_app (goodIn_of _ (by decide +kernel)) ggX4_answer_X4_isBox
set_option maxRecDepth 20000 in
theorem ggX4_answer_X4_canHave : GoodIn wsX4_answer wsX4_canHave := goodIn_r _ [11, 12, 13, 14, 5, 15, 7, 16, 17, 18, 19, 20, 21, 60, 61, 62, 63, 64, 65, 66, 67, 68, 69, 70, 71, 72, 73] (by decide +kernel) (by decide +kernel)
set_option maxRecDepth 20000 in
theorem gX4_answer_X4_canHave : GoodIn wsX4_answer (wsV RX4 90 RX4 yX4_canHave wsX4_canHave) := goodIn_app (goodIn_of _ (by decide +kernel)) ggX4_answer_X4_canHave
set_option maxRecDepth 20000 in
theorem ggX4_answer_X4_save : GoodIn wsX4_answer wsX4_save := goodIn_r _ [25, 26, 27, 7, 60, 61, 62, 63, 64, 65, 66, 67, 68, 69, 70, 71, 72, 73] (by decide +kernel) (by decide +kernel)
set_option maxRecDepth 20000 in
theorem gX4_answer_X4_save : GoodIn wsX4_answer (wsV RX4 65 RX4 yX4_save wsX4_save) := goodIn_app (goodIn_of _ (by decide +kernel)) ggX4_answer_X4_save
set_option maxRecDepth 20000 in
theorem ggX4_answer_X4_lay : GoodIn wsX4_answer wsX4_lay := goodIn_r _ [31, 7, 60, 61, 62, 63, 64, 65, 66, 67, 68, 69, 70, 71, 72, 73] (by decide +kernel) (by decide +kernel)
set_option maxRecDepth 20000 in
theorem gX4_answer_X4_lay : GoodIn wsX4_answer (wsV RX4 68 RX4 yX4_lay wsX4_lay) := goodIn_app (goodIn_of _ (by decide +kernel)) ggX4_answer_X4_lay
set_option maxRecDepth 20000 in
theorem ggX4_answer_X4_open : GoodIn wsX4_answer wsX4_open := goodIn_r _ [35, 36, 37, 38, 5, 39, 7, 12, 13, 14, 15, 40, 41, 42, 43, 44, 45, 46, 47, 48, 49, 50, 51, 60, 61, 62, 63, 64, 65, 66, 67, 68, 69, 70, 71, 72, 73] (by decide +kernel) (by decide +kernel)
set_option maxRecDepth 20000 in
theorem gX4_answer_X4_open : GoodIn wsX4_answer (wsV RX4 93 RX4 yX4_open wsX4_open) := goodIn_app (goodIn_of _ (by decide +kernel)) ggX4_answer_X4_open
set_option maxRecDepth 20000 in
theorem ggX4_answer_X4_wanting : GoodIn wsX4_answer wsX4_wanting := goodIn_r _ [55, 7, 56, 57, 58, 5, 59, 12, 13, 14, 15, 40, 41, 42, 43, 60, 61, 62, 63, 64, 65, 66, 67, 68, 69, 70, 71, 72, 73] (by decide +kernel) (by decide +kernel)
set_option maxRecDepth 20000 in
theorem gX4_answer_X4_wanting : GoodIn wsX4_answer (wsV RX4 97 RX4 yX4_wanting wsX4_wanting) := goodIn_app (goodIn_of _ (by decide +kernel)) ggX4_answer_X4_wanting
theorem dX4_answer_0 : decode cX4_answer 0 = .ok (.aload_n 0, 1) := by decide +kernel
theorem dX4_answer_1 : decode cX4_answer 1 = .ok (.aload_n 0, 1) := by decide +kernel
theorem dX4_answer_2 : decode cX4_answer 2 = .ok (.iload_n 1, 1) := by decide +kernel
theorem dX4_answer_3 : decode cX4_answer 3 = .ok (.invokevirtual 80, 3) := by decide +kernel
theorem dX4_answer_6 : decode cX4_answer 6 = .ok (.ifCond .ne 7, 3) := by decide +kernel
theorem dX4_answer_9 : decode cX4_answer 9 = .ok (.iconst 1, 1) := by decide +kernel
theorem dX4_answer_10 : decode cX4_answer 10 = .ok (.goto 17, 3) := by decide +kernel
theorem dX4_answer_13 : decode cX4_answer 13 = .ok (.aload_n 0, 1) := by decide +kernel
theorem dX4_answer_14 : decode cX4_answer 14 = .ok (.iload_n 1, 1) := by decide +kernel
theorem dX4_answer_15 : decode cX4_answer 15 = .ok (.iload_n 2, 1) := by decide +kernel
theorem dX4_answer_16 : decode cX4_answer 16 = .ok (.invokevirtual 90, 3) := by decide +kernel
theorem dX4_answer_19 : decode cX4_answer 19 = .ok (.ifCond .eq 7, 3) := by decide +kernel
theorem dX4_answer_22 : decode cX4_answer 22 = .ok (.iconst 0, 1) := by decide +kernel
theorem dX4_answer_23 : decode cX4_answer 23 = .ok (.goto 4, 3) := by decide +kernel
theorem dX4_answer_26 : decode cX4_answer 26 = .ok (.iconst 2, 1) := by decide +kernel
theorem dX4_answer_27 : decode cX4_answer 27 = .ok (.putfield 32, 3) := by decide +kernel
theorem dX4_answer_30 : decode cX4_answer 30 = .ok (.aload_n 0, 1) := by decide +kernel
theorem dX4_answer_31 : decode cX4_answer 31 = .ok (.getfield 32, 3) := by decide +kernel
theorem dX4_answer_34 : decode cX4_answer 34 = .ok (.ifCond .le 5, 3) := by decide +kernel
theorem dX4_answer_37 : decode cX4_answer 37 = .ok (.iconst 0, 1) := by decide +kernel
theorem dX4_answer_38 : decode cX4_answer 38 = .ok (.ireturn, 1) := by decide +kernel
theorem dX4_answer_39 : decode cX4_answer 39 = .ok (.aload_n 0, 1) := by decide +kernel
theorem dX4_answer_40 : decode cX4_answer 40 = .ok (.invokevirtual 65, 3) := by decide +kernel
theorem dX4_answer_43 : decode cX4_answer 43 = .ok (.aload_n 0, 1) := by decide +kernel
theorem dX4_answer_44 : decode cX4_answer 44 = .ok (.iload_n 1, 1) := by decide +kernel
theorem dX4_answer_45 : decode cX4_answer 45 = .ok (.iconst 4, 1) := by decide +kernel
theorem dX4_answer_46 : decode cX4_answer 46 = .ok (.iload_n 2, 1) := by decide +kernel
theorem dX4_answer_47 : decode cX4_answer 47 = .ok (.invokevirtual 68, 3) := by decide +kernel
theorem dX4_answer_50 : decode cX4_answer 50 = .ok (.aload_n 0, 1) := by decide +kernel
theorem dX4_answer_51 : decode cX4_answer 51 = .ok (.aload_n 0, 1) := by decide +kernel
theorem dX4_answer_52 : decode cX4_answer 52 = .ok (.invokevirtual 93, 3) := by decide +kernel
theorem dX4_answer_55 : decode cX4_answer 55 = .ok (.invokevirtual 97, 3) := by decide +kernel
theorem dX4_answer_58 : decode cX4_answer 58 = .ok (.ireturn, 1) := by decide +kernel
set_option maxRecDepth 20000 in
theorem ggX4_answered_X4_of : GoodIn wsX4_answered wsX4_of := goodIn_r _ [6, 1, 7, 8, 9, 10, 11, 12, 13, 14, 15, 16, 17, 18, 19, 20] (by decide +kernel) (by decide +kernel)
set_option maxRecDepth 20000 in
theorem gX4_answered_X4_of : GoodIn wsX4_answered (wsV RX4 43 RX4 yX4_of wsX4_of) := goodIn_app (goodIn_of _ (by decide +kernel)) ggX4_answered_X4_of
theorem dX4_answered_0 : decode cX4_answered 0 = .ok (.iconst 0, 1) := by decide +kernel
theorem dX4_answered_1 : decode cX4_answered 1 = .ok (.istore_n 1, 1) := by decide +kernel
theorem dX4_answered_2 : decode cX4_answered 2 = .ok (.iconst 0, 1) := by decide +kernel
theorem dX4_answered_3 : decode cX4_answered 3 = .ok (.istore_n 2, 1) := by decide +kernel
theorem dX4_answered_4 : decode cX4_answered 4 = .ok (.iload_n 2, 1) := by decide +kernel
theorem dX4_answered_5 : decode cX4_answered 5 = .ok (.aload_n 0, 1) := by decide +kernel
theorem dX4_answered_6 : decode cX4_answered 6 = .ok (.getfield 7, 3) := by decide +kernel
theorem dX4_answered_9 : decode cX4_answered 9 = .ok (.iconst 0, 1) := by decide +kernel
theorem dX4_answered_10 : decode cX4_answered 10 = .ok (.iaload, 1) := by decide +kernel
theorem dX4_answered_11 : decode cX4_answered 11 = .ok (.if_icmp .ge 27, 3) := by decide +kernel
theorem dX4_answered_14 : decode cX4_answered 14 = .ok (.iload_n 1, 1) := by decide +kernel
theorem dX4_answered_15 : decode cX4_answered 15 = .ok (.aload_n 0, 1) := by decide +kernel
theorem dX4_answered_16 : decode cX4_answered 16 = .ok (.iload_n 2, 1) := by decide +kernel
theorem dX4_answered_17 : decode cX4_answered 17 = .ok (.iconst 4, 1) := by decide +kernel
theorem dX4_answered_18 : decode cX4_answered 18 = .ok (.invokevirtual 43, 3) := by decide +kernel
theorem dX4_answered_21 : decode cX4_answered 21 = .ok (.iconst (-1), 1) := by decide +kernel
theorem dX4_answered_22 : decode cX4_answered 22 = .ok (.if_icmp .eq 7, 3) := by decide +kernel
theorem dX4_answered_25 : decode cX4_answered 25 = .ok (.iconst 1, 1) := by decide +kernel
theorem dX4_answered_26 : decode cX4_answered 26 = .ok (.goto 4, 3) := by decide +kernel
theorem dX4_answered_29 : decode cX4_answered 29 = .ok (.iconst 0, 1) := by decide +kernel
theorem dX4_answered_30 : decode cX4_answered 30 = .ok (.iadd, 1) := by decide +kernel
theorem dX4_answered_31 : decode cX4_answered 31 = .ok (.istore_n 1, 1) := by decide +kernel
theorem dX4_answered_32 : decode cX4_answered 32 = .ok (.iinc 2 1, 3) := by decide +kernel
theorem dX4_answered_35 : decode cX4_answered 35 = .ok (.goto (-31), 3) := by decide +kernel
theorem dX4_answered_38 : decode cX4_answered 38 = .ok (.iload_n 1, 1) := by decide +kernel
theorem dX4_answered_39 : decode cX4_answered 39 = .ok (.ireturn, 1) := by decide +kernel
set_option maxRecDepth 20000 in
theorem ggX4_clear_X4_save : GoodIn wsX4_clear wsX4_save := goodIn_r _ [7, 8, 9, 2, 22, 23, 24, 25, 26, 27, 28, 29, 30, 31, 32, 33, 34, 35] (by decide +kernel) (by decide +kernel)
set_option maxRecDepth 20000 in
theorem gX4_clear_X4_save : GoodIn wsX4_clear (wsV RX4 65 RX4 yX4_save wsX4_save) := goodIn_app (goodIn_of _ (by decide +kernel)) ggX4_clear_X4_save
set_option maxRecDepth 20000 in
theorem ggX4_clear_X4_answered : GoodIn wsX4_clear wsX4_answered := goodIn_r _ [13, 2, 14, 15, 16, 6, 17, 22, 23, 24, 25, 26, 27, 28, 29, 30, 31, 32, 33, 34, 35] (by decide +kernel) (by decide +kernel)
set_option maxRecDepth 20000 in
theorem gX4_clear_X4_answered : GoodIn wsX4_clear (wsV RX4 100 RX4 yX4_answered wsX4_answered) := goodIn_app (goodIn_of _ (by decide +kernel)) ggX4_clear_X4_answered
set_option maxRecDepth 20000 in
theorem ggX4_clear_X4_lay : GoodIn wsX4_clear wsX4_lay := goodIn_r _ [21, 2, 22, 23, 24, 25, 26, 27, 28, 29, 30, 31, 32, 33, 34, 35] (by decide +kernel) (by decide +kernel)
set_option maxRecDepth 20000 in
theorem gX4_clear_X4_lay : GoodIn wsX4_clear (wsV RX4 68 RX4 yX4_lay wsX4_lay) := goodIn_app (goodIn_of _ (by decide +kernel)) ggX4_clear_X4_lay
theorem dX4_clear_0 : decode cX4_clear 0 = .ok (.aload_n 0, 1) := by decide +kernel
theorem dX4_clear_1 : decode cX4_clear 1 = .ok (.iconst 0, 1) := by decide +kernel
theorem dX4_clear_2 : decode cX4_clear 2 = .ok (.putfield 32, 3) := by decide +kernel
theorem dX4_clear_5 : decode cX4_clear 5 = .ok (.aload_n 0, 1) := by decide +kernel
theorem dX4_clear_6 : decode cX4_clear 6 = .ok (.invokevirtual 65, 3) := by decide +kernel
theorem dX4_clear_9 : decode cX4_clear 9 = .ok (.aload_n 0, 1) := by decide +kernel
theorem dX4_clear_10 : decode cX4_clear 10 = .ok (.invokevirtual 100, 3) := by decide +kernel
theorem dX4_clear_13 : decode cX4_clear 13 = .ok (.istore_n 1, 1) := by decide +kernel
theorem dX4_clear_14 : decode cX4_clear 14 = .ok (.iconst 0, 1) := by decide +kernel
theorem dX4_clear_15 : decode cX4_clear 15 = .ok (.istore_n 2, 1) := by decide +kernel
theorem dX4_clear_16 : decode cX4_clear 16 = .ok (.iload_n 2, 1) := by decide +kernel
theorem dX4_clear_17 : decode cX4_clear 17 = .ok (.aload_n 0, 1) := by decide +kernel
theorem dX4_clear_18 : decode cX4_clear 18 = .ok (.getfield 7, 3) := by decide +kernel
theorem dX4_clear_21 : decode cX4_clear 21 = .ok (.iconst 0, 1) := by decide +kernel
theorem dX4_clear_22 : decode cX4_clear 22 = .ok (.iaload, 1) := by decide +kernel
theorem dX4_clear_23 : decode cX4_clear 23 = .ok (.if_icmp .ge 16, 3) := by decide +kernel
theorem dX4_clear_26 : decode cX4_clear 26 = .ok (.aload_n 0, 1) := by decide +kernel
theorem dX4_clear_27 : decode cX4_clear 27 = .ok (.iload_n 2, 1) := by decide +kernel
theorem dX4_clear_28 : decode cX4_clear 28 = .ok (.iconst 4, 1) := by decide +kernel
theorem dX4_clear_29 : decode cX4_clear 29 = .ok (.iconst (-1), 1) := by decide +kernel
theorem dX4_clear_30 : decode cX4_clear 30 = .ok (.invokevirtual 68, 3) := by decide +kernel
theorem dX4_clear_33 : decode cX4_clear 33 = .ok (.iinc 2 1, 3) := by decide +kernel
theorem dX4_clear_36 : decode cX4_clear 36 = .ok (.goto (-20), 3) := by decide +kernel
theorem dX4_clear_39 : decode cX4_clear 39 = .ok (.iload_n 1, 1) := by decide +kernel
theorem dX4_clear_40 : decode cX4_clear 40 = .ok (.ireturn, 1) := by decide +kernel
set_option maxRecDepth 20000 in
theorem ggX4_append_X4_in : GoodIn wsX4_append wsX4_in := goodIn_r _ [7] (by decide +kernel) (by decide +kernel)
set_option maxRecDepth 20000 in
theorem gX4_append_X4_in : GoodIn wsX4_append (va_wsS RX4 36 yX4_in wsX4_in) := goodIn_app (goodIn_of _ (by decide +kernel)) ggX4_append_X4_in
theorem dX4_append_0 : decode cX4_append 0 = .ok (.aload_n 0, 1) := by decide +kernel
theorem dX4_append_1 : decode cX4_append 1 = .ok (.iload_n 1, 1) := by decide +kernel
theorem dX4_append_2 : decode cX4_append 2 = .ok (.bipush 33, 2) := by decide +kernel
theorem dX4_append_4 : decode cX4_append 4 = .ok (.bipush 126, 2) := by decide +kernel
theorem dX4_append_6 : decode cX4_append 6 = .ok (.invokestatic 36, 3) := by decide +kernel
theorem dX4_append_9 : decode cX4_append 9 = .ok (.ifCond .ne 7, 3) := by decide +kernel
theorem dX4_append_12 : decode cX4_append 12 = .ok (.iconst 1, 1) := by decide +kernel
theorem dX4_append_13 : decode cX4_append 13 = .ok (.goto 17, 3) := by decide +kernel
theorem dX4_append_16 : decode cX4_append 16 = .ok (.aload_n 0, 1) := by decide +kernel
theorem dX4_append_17 : decode cX4_append 17 = .ok (.getfield 103, 3) := by decide +kernel
theorem dX4_append_20 : decode cX4_append 20 = .ok (.bipush 60, 2) := by decide +kernel
theorem dX4_append_22 : decode cX4_append 22 = .ok (.if_icmp .ne 7, 3) := by decide +kernel
theorem dX4_append_25 : decode cX4_append 25 = .ok (.iconst 2, 1) := by decide +kernel
theorem dX4_append_26 : decode cX4_append 26 = .ok (.goto 4, 3) := by decide +kernel
theorem dX4_append_29 : decode cX4_append 29 = .ok (.iconst 0, 1) := by decide +kernel
theorem dX4_append_30 : decode cX4_append 30 = .ok (.putfield 32, 3) := by decide +kernel
theorem dX4_append_33 : decode cX4_append 33 = .ok (.aload_n 0, 1) := by decide +kernel
theorem dX4_append_34 : decode cX4_append 34 = .ok (.getfield 32, 3) := by decide +kernel
theorem dX4_append_37 : decode cX4_append 37 = .ok (.ifCond .le 5, 3) := by decide +kernel
theorem dX4_append_40 : decode cX4_append 40 = .ok (.iconst 0, 1) := by decide +kernel
theorem dX4_append_41 : decode cX4_append 41 = .ok (.ireturn, 1) := by decide +kernel
theorem dX4_append_42 : decode cX4_append 42 = .ok (.aload_n 0, 1) := by decide +kernel
theorem dX4_append_43 : decode cX4_append 43 = .ok (.getfield 16, 3) := by decide +kernel
theorem dX4_append_46 : decode cX4_append 46 = .ok (.aload_n 0, 1) := by decide +kernel
theorem dX4_append_47 : decode cX4_append 47 = .ok (.getfield 103, 3) := by decide +kernel
theorem dX4_append_50 : decode cX4_append 50 = .ok (.iload_n 1, 1) := by decide +kernel
theorem dX4_append_51 : decode cX4_append 51 = .ok (.iastore, 1) := by decide +kernel
theorem dX4_append_52 : decode cX4_append 52 = .ok (.aload_n 0, 1) := by decide +kernel
theorem dX4_append_53 : decode cX4_append 53 = .ok (.dup, 1) := by decide +kernel
theorem dX4_append_54 : decode cX4_append 54 = .ok (.getfield 103, 3) := by decide +kernel
theorem dX4_append_57 : decode cX4_append 57 = .ok (.iconst 1, 1) := by decide +kernel
theorem dX4_append_58 : decode cX4_append 58 = .ok (.iadd, 1) := by decide +kernel
theorem dX4_append_59 : decode cX4_append 59 = .ok (.putfield 103, 3) := by decide +kernel
theorem dX4_append_62 : decode cX4_append 62 = .ok (.aload_n 0, 1) := by decide +kernel
theorem dX4_append_63 : decode cX4_append 63 = .ok (.getfield 103, 3) := by decide +kernel
theorem dX4_append_66 : decode cX4_append 66 = .ok (.ireturn, 1) := by decide +kernel
theorem dX4_clearBuffer_0 : decode cX4_clearBuffer 0 = .ok (.aload_n 0, 1) := by decide +kernel
theorem dX4_clearBuffer_1 : decode cX4_clearBuffer 1 = .ok (.iconst 0, 1) := by decide +kernel
theorem dX4_clearBuffer_2 : decode cX4_clearBuffer 2 = .ok (.putfield 32, 3) := by decide +kernel
theorem dX4_clearBuffer_5 : decode cX4_clearBuffer 5 = .ok (.aload_n 0, 1) := by decide +kernel
theorem dX4_clearBuffer_6 : decode cX4_clearBuffer 6 = .ok (.getfield 103, 3) := by decide +kernel
theorem dX4_clearBuffer_9 : decode cX4_clearBuffer 9 = .ok (.istore_n 1, 1) := by decide +kernel
theorem dX4_clearBuffer_10 : decode cX4_clearBuffer 10 = .ok (.aload_n 0, 1) := by decide +kernel
theorem dX4_clearBuffer_11 : decode cX4_clearBuffer 11 = .ok (.iconst 0, 1) := by decide +kernel
theorem dX4_clearBuffer_12 : decode cX4_clearBuffer 12 = .ok (.putfield 103, 3) := by decide +kernel
theorem dX4_clearBuffer_15 : decode cX4_clearBuffer 15 = .ok (.iload_n 1, 1) := by decide +kernel
theorem dX4_clearBuffer_16 : decode cX4_clearBuffer 16 = .ok (.ireturn, 1) := by decide +kernel
theorem dX4_letter_0 : decode cX4_letter 0 = .ok (.aload_n 0, 1) := by decide +kernel
theorem dX4_letter_1 : decode cX4_letter 1 = .ok (.getfield 106, 3) := by decide +kernel
theorem dX4_letter_4 : decode cX4_letter 4 = .ok (.aload_n 0, 1) := by decide +kernel
theorem dX4_letter_5 : decode cX4_letter 5 = .ok (.getfield 103, 3) := by decide +kernel
theorem dX4_letter_8 : decode cX4_letter 8 = .ok (.if_icmp .ge 15, 3) := by decide +kernel
theorem dX4_letter_11 : decode cX4_letter 11 = .ok (.aload_n 0, 1) := by decide +kernel
theorem dX4_letter_12 : decode cX4_letter 12 = .ok (.getfield 16, 3) := by decide +kernel
theorem dX4_letter_15 : decode cX4_letter 15 = .ok (.aload_n 0, 1) := by decide +kernel
theorem dX4_letter_16 : decode cX4_letter 16 = .ok (.getfield 106, 3) := by decide +kernel
theorem dX4_letter_19 : decode cX4_letter 19 = .ok (.iaload, 1) := by decide +kernel
theorem dX4_letter_20 : decode cX4_letter 20 = .ok (.goto 4, 3) := by decide +kernel
theorem dX4_letter_23 : decode cX4_letter 23 = .ok (.iconst (-1), 1) := by decide +kernel
theorem dX4_letter_24 : decode cX4_letter 24 = .ok (.ireturn, 1) := by decide +kernel
theorem dX4_needs_0 : decode cX4_needs 0 = .ok (.aload_n 0, 1) := by decide +kernel
theorem dX4_needs_1 : decode cX4_needs 1 = .ok (.getfield 109, 3) := by decide +kernel
theorem dX4_needs_4 : decode cX4_needs 4 = .ok (.iconst (-1), 1) := by decide +kernel
theorem dX4_needs_5 : decode cX4_needs 5 = .ok (.if_icmp .ne 29, 3) := by decide +kernel
theorem dX4_needs_8 : decode cX4_needs 8 = .ok (.aload_n 0, 1) := by decide +kernel
theorem dX4_needs_9 : decode cX4_needs 9 = .ok (.iload_n 1, 1) := by decide +kernel
theorem dX4_needs_10 : decode cX4_needs 10 = .ok (.ifCond .eq 7, 3) := by decide +kernel
theorem dX4_needs_13 : decode cX4_needs 13 = .ok (.iconst (-1), 1) := by decide +kernel
theorem dX4_needs_14 : decode cX4_needs 14 = .ok (.goto 7, 3) := by decide +kernel
theorem dX4_needs_17 : decode cX4_needs 17 = .ok (.aload_n 0, 1) := by decide +kernel
theorem dX4_needs_18 : decode cX4_needs 18 = .ok (.getfield 106, 3) := by decide +kernel
theorem dX4_needs_21 : decode cX4_needs 21 = .ok (.putfield 109, 3) := by decide +kernel
theorem dX4_needs_24 : decode cX4_needs 24 = .ok (.aload_n 0, 1) := by decide +kernel
theorem dX4_needs_25 : decode cX4_needs 25 = .ok (.dup, 1) := by decide +kernel
theorem dX4_needs_26 : decode cX4_needs 26 = .ok (.getfield 106, 3) := by decide +kernel
theorem dX4_needs_29 : decode cX4_needs 29 = .ok (.iconst 1, 1) := by decide +kernel
theorem dX4_needs_30 : decode cX4_needs 30 = .ok (.iadd, 1) := by decide +kernel
theorem dX4_needs_31 : decode cX4_needs 31 = .ok (.putfield 106, 3) := by decide +kernel
theorem dX4_needs_34 : decode cX4_needs 34 = .ok (.return_, 1) := by decide +kernel
set_option maxRecDepth 20000 in
theorem ggX4_number_X4_letter : GoodIn wsX4_number wsX4_letter := goodIn_r _ [7, 2, 8, 9, 17, 18, 19, 20, 21, 22, 23, 24, 25, 26, 27, 28, 29, 30] (by decide +kernel) (by decide +kernel)
set_option maxRecDepth 20000 in
theorem gX4_number_X4_letter : GoodIn wsX4_number (wsV RX4 112 RX4 yX4_letter wsX4_letter) := goodIn_app (goodIn_of _ (by decide +kernel)) ggX4_number_X4_letter
set_option maxRecDepth 20000 in
theorem ggX4_number_X4_in : GoodIn wsX4_number wsX4_in := goodIn_r _ [12] (by decide +kernel) (by decide +kernel)
set_option maxRecDepth 20000 in
theorem gX4_number_X4_in : GoodIn wsX4_number (va_wsS RX4 36 yX4_in wsX4_in) := goodIn_app (goodIn_of _ (by decide +kernel)) ggX4_number_X4_in
set_option maxRecDepth 20000 in
theorem ggX4_number_X4_needs : GoodIn wsX4_number wsX4_needs := goodIn_r _ [16, 1, 2, 17, 18, 19, 20, 21, 22, 23, 24, 25, 26, 27, 28, 29, 30] (by decide +kernel) (by decide +kernel)
set_option maxRecDepth 20000 in
theorem gX4_number_X4_needs : GoodIn wsX4_number (wsV RX4 115 RX4 yX4_needs wsX4_needs) := goodIn_app (goodIn_of _ (by decide +kernel)) ggX4_number_X4_needs
theorem dX4_number_0 : decode cX4_number 0 = .ok (.aload_n 0, 1) := by decide +kernel
theorem dX4_number_1 : decode cX4_number 1 = .ok (.invokevirtual 112, 3) := by decide +kernel
theorem dX4_number_4 : decode cX4_number 4 = .ok (.bipush 48, 2) := by decide +kernel
theorem dX4_number_6 : decode cX4_number 6 = .ok (.isub, 1) := by decide +kernel
theorem dX4_number_7 : decode cX4_number 7 = .ok (.istore_n 2, 1) := by decide +kernel
theorem dX4_number_8 : decode cX4_number 8 = .ok (.aload_n 0, 1) := by decide +kernel
theorem dX4_number_9 : decode cX4_number 9 = .ok (.iload_n 2, 1) := by decide +kernel
theorem dX4_number_10 : decode cX4_number 10 = .ok (.iconst 0, 1) := by decide +kernel
theorem dX4_number_11 : decode cX4_number 11 = .ok (.bipush 9, 2) := by decide +kernel
theorem dX4_number_13 : decode cX4_number 13 = .ok (.invokestatic 36, 3) := by decide +kernel
theorem dX4_number_16 : decode cX4_number 16 = .ok (.invokevirtual 115, 3) := by decide +kernel
theorem dX4_number_19 : decode cX4_number 19 = .ok (.aload_n 0, 1) := by decide +kernel
theorem dX4_number_20 : decode cX4_number 20 = .ok (.invokevirtual 112, 3) := by decide +kernel
theorem dX4_number_23 : decode cX4_number 23 = .ok (.bipush 48, 2) := by decide +kernel
theorem dX4_number_25 : decode cX4_number 25 = .ok (.isub, 1) := by decide +kernel
theorem dX4_number_26 : decode cX4_number 26 = .ok (.istore_n 3, 1) := by decide +kernel
theorem dX4_number_27 : decode cX4_number 27 = .ok (.aload_n 0, 1) := by decide +kernel
theorem dX4_number_28 : decode cX4_number 28 = .ok (.getfield 109, 3) := by decide +kernel
theorem dX4_number_31 : decode cX4_number 31 = .ok (.iconst (-1), 1) := by decide +kernel
theorem dX4_number_32 : decode cX4_number 32 = .ok (.if_icmp .ne 55, 3) := by decide +kernel
theorem dX4_number_35 : decode cX4_number 35 = .ok (.iload_n 2, 1) := by decide +kernel
theorem dX4_number_36 : decode cX4_number 36 = .ok (.ifCond .le 51, 3) := by decide +kernel
theorem dX4_number_39 : decode cX4_number 39 = .ok (.iload_n 3, 1) := by decide +kernel
theorem dX4_number_40 : decode cX4_number 40 = .ok (.iconst 0, 1) := by decide +kernel
theorem dX4_number_41 : decode cX4_number 41 = .ok (.bipush 9, 2) := by decide +kernel
theorem dX4_number_43 : decode cX4_number 43 = .ok (.invokestatic 36, 3) := by decide +kernel
theorem dX4_number_46 : decode cX4_number 46 = .ok (.ifCond .eq 41, 3) := by decide +kernel
theorem dX4_number_49 : decode cX4_number 49 = .ok (.bipush 10, 2) := by decide +kernel
theorem dX4_number_51 : decode cX4_number 51 = .ok (.iload_n 2, 1) := by decide +kernel
theorem dX4_number_52 : decode cX4_number 52 = .ok (.imul, 1) := by decide +kernel
theorem dX4_number_53 : decode cX4_number 53 = .ok (.iload_n 3, 1) := by decide +kernel
theorem dX4_number_54 : decode cX4_number 54 = .ok (.iadd, 1) := by decide +kernel
theorem dX4_number_55 : decode cX4_number 55 = .ok (.iload_n 1, 1) := by decide +kernel
theorem dX4_number_56 : decode cX4_number 56 = .ok (.if_icmp .gt 31, 3) := by decide +kernel
theorem dX4_number_59 : decode cX4_number 59 = .ok (.bipush 10, 2) := by decide +kernel
theorem dX4_number_61 : decode cX4_number 61 = .ok (.iload_n 2, 1) := by decide +kernel
theorem dX4_number_62 : decode cX4_number 62 = .ok (.imul, 1) := by decide +kernel
theorem dX4_number_63 : decode cX4_number 63 = .ok (.iload_n 3, 1) := by decide +kernel
theorem dX4_number_64 : decode cX4_number 64 = .ok (.iadd, 1) := by decide +kernel
theorem dX4_number_65 : decode cX4_number 65 = .ok (.istore_n 2, 1) := by decide +kernel
theorem dX4_number_66 : decode cX4_number 66 = .ok (.aload_n 0, 1) := by decide +kernel
theorem dX4_number_67 : decode cX4_number 67 = .ok (.dup, 1) := by decide +kernel
theorem dX4_number_68 : decode cX4_number 68 = .ok (.getfield 106, 3) := by decide +kernel
theorem dX4_number_71 : decode cX4_number 71 = .ok (.iconst 1, 1) := by decide +kernel
theorem dX4_number_72 : decode cX4_number 72 = .ok (.iadd, 1) := by decide +kernel
theorem dX4_number_73 : decode cX4_number 73 = .ok (.putfield 106, 3) := by decide +kernel
theorem dX4_number_76 : decode cX4_number 76 = .ok (.aload_n 0, 1) := by decide +kernel
theorem dX4_number_77 : decode cX4_number 77 = .ok (.invokevirtual 112, 3) := by decide +kernel
theorem dX4_number_80 : decode cX4_number 80 = .ok (.bipush 48, 2) := by decide +kernel
theorem dX4_number_82 : decode cX4_number 82 = .ok (.isub, 1) := by decide +kernel
theorem dX4_number_83 : decode cX4_number 83 = .ok (.istore_n 3, 1) := by decide +kernel
theorem dX4_number_84 : decode cX4_number 84 = .ok (.goto (-57), 3) := by decide +kernel
theorem dX4_number_87 : decode cX4_number 87 = .ok (.iload_n 2, 1) := by decide +kernel
theorem dX4_number_88 : decode cX4_number 88 = .ok (.ireturn, 1) := by decide +kernel
set_option maxRecDepth 20000 in
theorem ggX4_readPart_X4_number : GoodIn wsX4_readPart wsX4_number := goodIn_r _ [10, 3, 4, 11, 12, 13, 9, 14, 15, 16, 17, 18, 19, 20, 21, 22, 23, 24, 25, 26, 27, 28, 29, 30, 31, 32, 33, 34, 35, 36, 37] (by decide +kernel) (by decide +kernel)
set_option maxRecDepth 20000 in
theorem gX4_readPart_X4_number : GoodIn wsX4_readPart (wsV RX4 122 RX4 yX4_number wsX4_number) := goodIn_app (goodIn_of _ (by decide +kernel)) ggX4_readPart_X4_number
set_option maxRecDepth 20000 in
theorem ggX4_readPart_X4_letter : GoodIn wsX4_readPart wsX4_letter := goodIn_r _ [14, 4, 15, 16, 24, 25, 26, 27, 28, 29, 30, 31, 32, 33, 34, 35, 36, 37] (by decide +kernel) (by decide +kernel)
set_option maxRecDepth 20000 in
theorem gX4_readPart_X4_letter : GoodIn wsX4_readPart (wsV RX4 112 RX4 yX4_letter wsX4_letter) := goodIn_app (goodIn_of _ (by decide +kernel)) ggX4_readPart_X4_letter
set_option maxRecDepth 20000 in
theorem ggX4_readPart_X4_needs : GoodIn wsX4_readPart wsX4_needs := goodIn_r _ [23, 3, 4, 24, 25, 26, 27, 28, 29, 30, 31, 32, 33, 34, 35, 36, 37] (by decide +kernel) (by decide +kernel)
set_option maxRecDepth 20000 in
theorem gX4_readPart_X4_needs : GoodIn wsX4_readPart (wsV RX4 115 RX4 yX4_needs wsX4_needs) := goodIn_app (goodIn_of _ (by decide +kernel)) ggX4_readPart_X4_needs
theorem dX4_readPart_0 : decode cX4_readPart 0 = .ok (.iconst 2, 1) := by decide +kernel
theorem dX4_readPart_1 : decode cX4_readPart 1 = .ok (.aload_n 0, 1) := by decide +kernel
theorem dX4_readPart_2 : decode cX4_readPart 2 = .ok (.getfield 119, 3) := by decide +kernel
theorem dX4_readPart_5 : decode cX4_readPart 5 = .ok (.imul, 1) := by decide +kernel
theorem dX4_readPart_6 : decode cX4_readPart 6 = .ok (.istore_n 1, 1) := by decide +kernel
theorem dX4_readPart_7 : decode cX4_readPart 7 = .ok (.aload_n 0, 1) := by decide +kernel
theorem dX4_readPart_8 : decode cX4_readPart 8 = .ok (.getfield 22, 3) := by decide +kernel
theorem dX4_readPart_11 : decode cX4_readPart 11 = .ok (.iload_n 1, 1) := by decide +kernel
theorem dX4_readPart_12 : decode cX4_readPart 12 = .ok (.aload_n 0, 1) := by decide +kernel
theorem dX4_readPart_13 : decode cX4_readPart 13 = .ok (.bipush 15, 2) := by decide +kernel
theorem dX4_readPart_15 : decode cX4_readPart 15 = .ok (.invokevirtual 122, 3) := by decide +kernel
theorem dX4_readPart_18 : decode cX4_readPart 18 = .ok (.iastore, 1) := by decide +kernel
theorem dX4_readPart_19 : decode cX4_readPart 19 = .ok (.aload_n 0, 1) := by decide +kernel
theorem dX4_readPart_20 : decode cX4_readPart 20 = .ok (.aload_n 0, 1) := by decide +kernel
theorem dX4_readPart_21 : decode cX4_readPart 21 = .ok (.invokevirtual 112, 3) := by decide +kernel
theorem dX4_readPart_24 : decode cX4_readPart 24 = .ok (.bipush 61, 2) := by decide +kernel
theorem dX4_readPart_26 : decode cX4_readPart 26 = .ok (.if_icmp .ne 7, 3) := by decide +kernel
theorem dX4_readPart_29 : decode cX4_readPart 29 = .ok (.iconst 1, 1) := by decide +kernel
theorem dX4_readPart_30 : decode cX4_readPart 30 = .ok (.goto 4, 3) := by decide +kernel
theorem dX4_readPart_33 : decode cX4_readPart 33 = .ok (.iconst 0, 1) := by decide +kernel
theorem dX4_readPart_34 : decode cX4_readPart 34 = .ok (.invokevirtual 115, 3) := by decide +kernel
theorem dX4_readPart_37 : decode cX4_readPart 37 = .ok (.aload_n 0, 1) := by decide +kernel
theorem dX4_readPart_38 : decode cX4_readPart 38 = .ok (.getfield 109, 3) := by decide +kernel
theorem dX4_readPart_41 : decode cX4_readPart 41 = .ok (.iconst (-1), 1) := by decide +kernel
theorem dX4_readPart_42 : decode cX4_readPart 42 = .ok (.if_icmp .ne 34, 3) := by decide +kernel
theorem dX4_readPart_45 : decode cX4_readPart 45 = .ok (.aload_n 0, 1) := by decide +kernel
theorem dX4_readPart_46 : decode cX4_readPart 46 = .ok (.invokevirtual 112, 3) := by decide +kernel
theorem dX4_readPart_49 : decode cX4_readPart 49 = .ok (.bipush 45, 2) := by decide +kernel
theorem dX4_readPart_51 : decode cX4_readPart 51 = .ok (.if_icmp .ne 25, 3) := by decide +kernel
theorem dX4_readPart_54 : decode cX4_readPart 54 = .ok (.aload_n 0, 1) := by decide +kernel
theorem dX4_readPart_55 : decode cX4_readPart 55 = .ok (.dup, 1) := by decide +kernel
theorem dX4_readPart_56 : decode cX4_readPart 56 = .ok (.getfield 106, 3) := by decide +kernel
theorem dX4_readPart_59 : decode cX4_readPart 59 = .ok (.iconst 1, 1) := by decide +kernel
theorem dX4_readPart_60 : decode cX4_readPart 60 = .ok (.iadd, 1) := by decide +kernel
theorem dX4_readPart_61 : decode cX4_readPart 61 = .ok (.putfield 106, 3) := by decide +kernel
theorem dX4_readPart_64 : decode cX4_readPart 64 = .ok (.aload_n 0, 1) := by decide +kernel
theorem dX4_readPart_65 : decode cX4_readPart 65 = .ok (.getfield 22, 3) := by decide +kernel
theorem dX4_readPart_68 : decode cX4_readPart 68 = .ok (.iload_n 1, 1) := by decide +kernel
theorem dX4_readPart_69 : decode cX4_readPart 69 = .ok (.iconst 1, 1) := by decide +kernel
theorem dX4_readPart_70 : decode cX4_readPart 70 = .ok (.iadd, 1) := by decide +kernel
theorem dX4_readPart_71 : decode cX4_readPart 71 = .ok (.iconst (-1), 1) := by decide +kernel
theorem dX4_readPart_72 : decode cX4_readPart 72 = .ok (.iastore, 1) := by decide +kernel
theorem dX4_readPart_73 : decode cX4_readPart 73 = .ok (.goto 17, 3) := by decide +kernel
theorem dX4_readPart_76 : decode cX4_readPart 76 = .ok (.aload_n 0, 1) := by decide +kernel
theorem dX4_readPart_77 : decode cX4_readPart 77 = .ok (.getfield 22, 3) := by decide +kernel
theorem dX4_readPart_80 : decode cX4_readPart 80 = .ok (.iload_n 1, 1) := by decide +kernel
theorem dX4_readPart_81 : decode cX4_readPart 81 = .ok (.iconst 1, 1) := by decide +kernel
theorem dX4_readPart_82 : decode cX4_readPart 82 = .ok (.iadd, 1) := by decide +kernel
theorem dX4_readPart_83 : decode cX4_readPart 83 = .ok (.aload_n 0, 1) := by decide +kernel
theorem dX4_readPart_84 : decode cX4_readPart 84 = .ok (.ldc 125, 2) := by decide +kernel
theorem dX4_readPart_86 : decode cX4_readPart 86 = .ok (.invokevirtual 122, 3) := by decide +kernel
theorem dX4_readPart_89 : decode cX4_readPart 89 = .ok (.iastore, 1) := by decide +kernel
theorem dX4_readPart_90 : decode cX4_readPart 90 = .ok (.aload_n 0, 1) := by decide +kernel
theorem dX4_readPart_91 : decode cX4_readPart 91 = .ok (.dup, 1) := by decide +kernel
theorem dX4_readPart_92 : decode cX4_readPart 92 = .ok (.getfield 119, 3) := by decide +kernel
theorem dX4_readPart_95 : decode cX4_readPart 95 = .ok (.iconst 1, 1) := by decide +kernel
theorem dX4_readPart_96 : decode cX4_readPart 96 = .ok (.iadd, 1) := by decide +kernel
theorem dX4_readPart_97 : decode cX4_readPart 97 = .ok (.putfield 119, 3) := by decide +kernel
theorem dX4_readPart_100 : decode cX4_readPart 100 = .ok (.return_, 1) := by decide +kernel
set_option maxRecDepth 20000 in
theorem ggX4_readBuffer_X4_readPart : GoodIn wsX4_readBuffer wsX4_readPart := goodIn_r _ [9, 1, 10, 3, 2, 11, 12, 13, 14, 8, 15, 16, 17, 18, 19, 4, 20, 21, 22, 23, 24, 25, 26, 27, 28, 29, 30, 31, 32, 33, 34, 35, 36, 37, 38, 39, 40, 41] (by decide +kernel) (by decide +kernel)
set_option maxRecDepth 20000 in
theorem gX4_readBuffer_X4_readPart : GoodIn wsX4_readBuffer (wsV RX4 126 RX4 yX4_readPart wsX4_readPart) := goodIn_app (goodIn_of _ (by decide +kernel)) ggX4_readBuffer_X4_readPart
set_option maxRecDepth 20000 in
theorem ggX4_readBuffer_X4_letter : GoodIn wsX4_readBuffer wsX4_letter := goodIn_r _ [19, 2, 4, 20, 28, 29, 30, 31, 32, 33, 34, 35, 36, 37, 38, 39, 40, 41] (by decide +kernel) (by decide +kernel)
set_option maxRecDepth 20000 in
theorem gX4_readBuffer_X4_letter : GoodIn wsX4_readBuffer (wsV RX4 112 RX4 yX4_letter wsX4_letter) := goodIn_app (goodIn_of _ (by decide +kernel)) ggX4_readBuffer_X4_letter
set_option maxRecDepth 20000 in
theorem ggX4_readBuffer_X4_needs : GoodIn wsX4_readBuffer wsX4_needs := goodIn_r _ [27, 3, 2, 28, 29, 30, 31, 32, 33, 34, 35, 36, 37, 38, 39, 40, 41] (by decide +kernel) (by decide +kernel)
set_option maxRecDepth 20000 in
theorem gX4_readBuffer_X4_needs : GoodIn wsX4_readBuffer (wsV RX4 115 RX4 yX4_needs wsX4_needs) := goodIn_app (goodIn_of _ (by decide +kernel)) ggX4_readBuffer_X4_needs
theorem dX4_readBuffer_0 : decode cX4_readBuffer 0 = .ok (.aload_n 0, 1) := by decide +kernel
theorem dX4_readBuffer_1 : decode cX4_readBuffer 1 = .ok (.iconst 0, 1) := by decide +kernel
theorem dX4_readBuffer_2 : decode cX4_readBuffer 2 = .ok (.putfield 119, 3) := by decide +kernel
theorem dX4_readBuffer_5 : decode cX4_readBuffer 5 = .ok (.aload_n 0, 1) := by decide +kernel
theorem dX4_readBuffer_6 : decode cX4_readBuffer 6 = .ok (.iconst 0, 1) := by decide +kernel
theorem dX4_readBuffer_7 : decode cX4_readBuffer 7 = .ok (.putfield 106, 3) := by decide +kernel
theorem dX4_readBuffer_10 : decode cX4_readBuffer 10 = .ok (.aload_n 0, 1) := by decide +kernel
theorem dX4_readBuffer_11 : decode cX4_readBuffer 11 = .ok (.iconst (-1), 1) := by decide +kernel
theorem dX4_readBuffer_12 : decode cX4_readBuffer 12 = .ok (.putfield 109, 3) := by decide +kernel
theorem dX4_readBuffer_15 : decode cX4_readBuffer 15 = .ok (.iconst 1, 1) := by decide +kernel
theorem dX4_readBuffer_16 : decode cX4_readBuffer 16 = .ok (.istore_n 1, 1) := by decide +kernel
theorem dX4_readBuffer_17 : decode cX4_readBuffer 17 = .ok (.iload_n 1, 1) := by decide +kernel
theorem dX4_readBuffer_18 : decode cX4_readBuffer 18 = .ok (.ifCond .eq 71, 3) := by decide +kernel
theorem dX4_readBuffer_21 : decode cX4_readBuffer 21 = .ok (.aload_n 0, 1) := by decide +kernel
theorem dX4_readBuffer_22 : decode cX4_readBuffer 22 = .ok (.invokevirtual 126, 3) := by decide +kernel
theorem dX4_readBuffer_25 : decode cX4_readBuffer 25 = .ok (.aload_n 0, 1) := by decide +kernel
theorem dX4_readBuffer_26 : decode cX4_readBuffer 26 = .ok (.getfield 109, 3) := by decide +kernel
theorem dX4_readBuffer_29 : decode cX4_readBuffer 29 = .ok (.iconst (-1), 1) := by decide +kernel
theorem dX4_readBuffer_30 : decode cX4_readBuffer 30 = .ok (.if_icmp .ne 18, 3) := by decide +kernel
theorem dX4_readBuffer_33 : decode cX4_readBuffer 33 = .ok (.aload_n 0, 1) := by decide +kernel
theorem dX4_readBuffer_34 : decode cX4_readBuffer 34 = .ok (.getfield 106, 3) := by decide +kernel
theorem dX4_readBuffer_37 : decode cX4_readBuffer 37 = .ok (.aload_n 0, 1) := by decide +kernel
theorem dX4_readBuffer_38 : decode cX4_readBuffer 38 = .ok (.getfield 103, 3) := by decide +kernel
theorem dX4_readBuffer_41 : decode cX4_readBuffer 41 = .ok (.if_icmp .ge 7, 3) := by decide +kernel
theorem dX4_readBuffer_44 : decode cX4_readBuffer 44 = .ok (.iconst 1, 1) := by decide +kernel
theorem dX4_readBuffer_45 : decode cX4_readBuffer 45 = .ok (.goto 4, 3) := by decide +kernel
theorem dX4_readBuffer_48 : decode cX4_readBuffer 48 = .ok (.iconst 0, 1) := by decide +kernel
theorem dX4_readBuffer_49 : decode cX4_readBuffer 49 = .ok (.istore_n 1, 1) := by decide +kernel
theorem dX4_readBuffer_50 : decode cX4_readBuffer 50 = .ok (.iload_n 1, 1) := by decide +kernel
theorem dX4_readBuffer_51 : decode cX4_readBuffer 51 = .ok (.ifCond .eq (-34), 3) := by decide +kernel
theorem dX4_readBuffer_54 : decode cX4_readBuffer 54 = .ok (.aload_n 0, 1) := by decide +kernel
theorem dX4_readBuffer_55 : decode cX4_readBuffer 55 = .ok (.aload_n 0, 1) := by decide +kernel
theorem dX4_readBuffer_56 : decode cX4_readBuffer 56 = .ok (.invokevirtual 112, 3) := by decide +kernel
theorem dX4_readBuffer_59 : decode cX4_readBuffer 59 = .ok (.bipush 44, 2) := by decide +kernel
theorem dX4_readBuffer_61 : decode cX4_readBuffer 61 = .ok (.if_icmp .ne 7, 3) := by decide +kernel
theorem dX4_readBuffer_64 : decode cX4_readBuffer 64 = .ok (.iconst 1, 1) := by decide +kernel
theorem dX4_readBuffer_65 : decode cX4_readBuffer 65 = .ok (.goto 4, 3) := by decide +kernel
theorem dX4_readBuffer_68 : decode cX4_readBuffer 68 = .ok (.iconst 0, 1) := by decide +kernel
theorem dX4_readBuffer_69 : decode cX4_readBuffer 69 = .ok (.invokevirtual 115, 3) := by decide +kernel
theorem dX4_readBuffer_72 : decode cX4_readBuffer 72 = .ok (.aload_n 0, 1) := by decide +kernel
theorem dX4_readBuffer_73 : decode cX4_readBuffer 73 = .ok (.getfield 109, 3) := by decide +kernel
theorem dX4_readBuffer_76 : decode cX4_readBuffer 76 = .ok (.iconst (-1), 1) := by decide +kernel
theorem dX4_readBuffer_77 : decode cX4_readBuffer 77 = .ok (.if_icmp .ne 7, 3) := by decide +kernel
theorem dX4_readBuffer_80 : decode cX4_readBuffer 80 = .ok (.iconst 1, 1) := by decide +kernel
theorem dX4_readBuffer_81 : decode cX4_readBuffer 81 = .ok (.goto 4, 3) := by decide +kernel
theorem dX4_readBuffer_84 : decode cX4_readBuffer 84 = .ok (.iconst 0, 1) := by decide +kernel
theorem dX4_readBuffer_85 : decode cX4_readBuffer 85 = .ok (.istore_n 1, 1) := by decide +kernel
theorem dX4_readBuffer_86 : decode cX4_readBuffer 86 = .ok (.goto (-69), 3) := by decide +kernel
theorem dX4_readBuffer_89 : decode cX4_readBuffer 89 = .ok (.aload_n 0, 1) := by decide +kernel
theorem dX4_readBuffer_90 : decode cX4_readBuffer 90 = .ok (.getfield 109, 3) := by decide +kernel
theorem dX4_readBuffer_93 : decode cX4_readBuffer 93 = .ok (.ireturn, 1) := by decide +kernel
set_option maxRecDepth 20000 in
theorem ggX4_firstError_X4_readBuffer : GoodIn wsX4_firstError wsX4_readBuffer := goodIn_r _ [7, 8, 9, 10, 2, 11, 12, 13, 6, 14, 15, 16, 17, 18, 19, 20, 21, 22, 23, 24, 25, 26, 27, 28, 29, 30, 31, 32, 33, 34, 35, 36, 37, 38, 39, 40, 41, 42, 43, 44, 45, 46] (by decide +kernel) (by decide +kernel)
set_option maxRecDepth 20000 in
theorem gX4_firstError_X4_readBuffer : GoodIn wsX4_firstError (wsV RX4 129 RX4 yX4_readBuffer wsX4_readBuffer) := goodIn_app (goodIn_of _ (by decide +kernel)) ggX4_firstError_X4_readBuffer
theorem dX4_firstError_0 : decode cX4_firstError 0 = .ok (.aload_n 0, 1) := by decide +kernel
theorem dX4_firstError_1 : decode cX4_firstError 1 = .ok (.iconst 0, 1) := by decide +kernel
theorem dX4_firstError_2 : decode cX4_firstError 2 = .ok (.putfield 32, 3) := by decide +kernel
theorem dX4_firstError_5 : decode cX4_firstError 5 = .ok (.aload_n 0, 1) := by decide +kernel
theorem dX4_firstError_6 : decode cX4_firstError 6 = .ok (.invokevirtual 129, 3) := by decide +kernel
theorem dX4_firstError_9 : decode cX4_firstError 9 = .ok (.istore_n 1, 1) := by decide +kernel
theorem dX4_firstError_10 : decode cX4_firstError 10 = .ok (.iload_n 1, 1) := by decide +kernel
theorem dX4_firstError_11 : decode cX4_firstError 11 = .ok (.iconst (-1), 1) := by decide +kernel
theorem dX4_firstError_12 : decode cX4_firstError 12 = .ok (.if_icmp .ne 10, 3) := by decide +kernel
theorem dX4_firstError_15 : decode cX4_firstError 15 = .ok (.aload_n 0, 1) := by decide +kernel
theorem dX4_firstError_16 : decode cX4_firstError 16 = .ok (.getfield 103, 3) := by decide +kernel
theorem dX4_firstError_19 : decode cX4_firstError 19 = .ok (.goto 4, 3) := by decide +kernel
theorem dX4_firstError_22 : decode cX4_firstError 22 = .ok (.iload_n 1, 1) := by decide +kernel
theorem dX4_firstError_23 : decode cX4_firstError 23 = .ok (.ireturn, 1) := by decide +kernel
set_option maxRecDepth 20000 in
theorem ggX4_fill_X4_readBuffer : GoodIn wsX4_fill wsX4_readBuffer := goodIn_r _ [9, 2, 10, 11, 4, 12, 13, 14, 8, 15, 3, 16, 17, 18, 19, 20, 21, 22, 23, 24, 25, 26, 27, 28, 29, 30, 31, 32, 59, 60, 61, 62, 63, 64, 65, 66, 67, 68, 69, 70, 71, 72] (by decide +kernel) (by decide +kernel)
set_option maxRecDepth 20000 in
theorem gX4_fill_X4_readBuffer : GoodIn wsX4_fill (wsV RX4 129 RX4 yX4_readBuffer wsX4_readBuffer) := goodIn_app (goodIn_of _ (by decide +kernel)) ggX4_fill_X4_readBuffer
set_option maxRecDepth 20000 in
theorem ggX4_fill_X4_save : GoodIn wsX4_fill wsX4_save := goodIn_r _ [36, 37, 38, 39, 59, 60, 61, 62, 63, 64, 65, 66, 67, 68, 69, 70, 71, 72] (by decide +kernel) (by decide +kernel)
set_option maxRecDepth 20000 in
theorem gX4_fill_X4_save : GoodIn wsX4_fill (wsV RX4 65 RX4 yX4_save wsX4_save) := goodIn_app (goodIn_of _ (by decide +kernel)) ggX4_fill_X4_save
set_option maxRecDepth 20000 in
theorem ggX4_fill_X4_isBox : GoodIn wsX4_fill wsX4_isBox := goodIn_r _ [43, 39, 59, 60, 61, 62, 63, 64, 65, 66, 67, 68, 69, 70, 71, 72] (by decide +kernel) (by decide +kernel)
set_option maxRecDepth 20000 in
theorem gX4_fill_X4_isBox : GoodIn wsX4_fill (wsV RX4 80 RX4 yX4_isBox wsX4_isBox) := goodIn_app (goodIn_of _ (by decide +kernel)) ggX4_fill_X4_isBox
set_option maxRecDepth 20000 in
theorem ggX4_fill_X4_canHave : GoodIn wsX4_fill wsX4_canHave := goodIn_r _ [47, 48, 49, 50, 8, 51, 39, 52, 53, 54, 26, 27, 28, 59, 60, 61, 62, 63, 64, 65, 66, 67, 68, 69, 70, 71, 72] (by decide +kernel) (by decide +kernel)
set_option maxRecDepth 20000 in
theorem gX4_fill_X4_canHave : GoodIn wsX4_fill (wsV RX4 90 RX4 yX4_canHave wsX4_canHave) := goodIn_app (goodIn_of _ (by decide +kernel)) ggX4_fill_X4_canHave
set_option maxRecDepth 20000 in
theorem ggX4_fill_X4_lay : GoodIn wsX4_fill wsX4_lay := goodIn_r _ [58, 39, 59, 60, 61, 62, 63, 64, 65, 66, 67, 68, 69, 70, 71, 72] (by decide +kernel) (by decide +kernel)
set_option maxRecDepth 20000 in
theorem gX4_fill_X4_lay : GoodIn wsX4_fill (wsV RX4 68 RX4 yX4_lay wsX4_lay) := goodIn_app (goodIn_of _ (by decide +kernel)) ggX4_fill_X4_lay
theorem dX4_fill_0 : decode cX4_fill 0 = .ok (.aload_n 0, 1) := by decide +kernel
theorem dX4_fill_1 : decode cX4_fill 1 = .ok (.aload_n 0, 1) := by decide +kernel
theorem dX4_fill_2 : decode cX4_fill 2 = .ok (.invokevirtual 129, 3) := by decide +kernel
theorem dX4_fill_5 : decode cX4_fill 5 = .ok (.iconst (-1), 1) := by decide +kernel
theorem dX4_fill_6 : decode cX4_fill 6 = .ok (.if_icmp .ne 7, 3) := by decide +kernel
theorem dX4_fill_9 : decode cX4_fill 9 = .ok (.iconst 0, 1) := by decide +kernel
theorem dX4_fill_10 : decode cX4_fill 10 = .ok (.goto 4, 3) := by decide +kernel
theorem dX4_fill_13 : decode cX4_fill 13 = .ok (.iconst 1, 1) := by decide +kernel
theorem dX4_fill_14 : decode cX4_fill 14 = .ok (.putfield 32, 3) := by decide +kernel
theorem dX4_fill_17 : decode cX4_fill 17 = .ok (.aload_n 0, 1) := by decide +kernel
theorem dX4_fill_18 : decode cX4_fill 18 = .ok (.getfield 32, 3) := by decide +kernel
theorem dX4_fill_21 : decode cX4_fill 21 = .ok (.ifCond .le 5, 3) := by decide +kernel
theorem dX4_fill_24 : decode cX4_fill 24 = .ok (.iconst 0, 1) := by decide +kernel
theorem dX4_fill_25 : decode cX4_fill 25 = .ok (.ireturn, 1) := by decide +kernel
theorem dX4_fill_26 : decode cX4_fill 26 = .ok (.aload_n 0, 1) := by decide +kernel
theorem dX4_fill_27 : decode cX4_fill 27 = .ok (.invokevirtual 65, 3) := by decide +kernel
theorem dX4_fill_30 : decode cX4_fill 30 = .ok (.iconst 0, 1) := by decide +kernel
theorem dX4_fill_31 : decode cX4_fill 31 = .ok (.istore_n 1, 1) := by decide +kernel
theorem dX4_fill_32 : decode cX4_fill 32 = .ok (.iload_n 1, 1) := by decide +kernel
theorem dX4_fill_33 : decode cX4_fill 33 = .ok (.aload_n 0, 1) := by decide +kernel
theorem dX4_fill_34 : decode cX4_fill 34 = .ok (.getfield 119, 3) := by decide +kernel
theorem dX4_fill_37 : decode cX4_fill 37 = .ok (.if_icmp .ge 72, 3) := by decide +kernel
theorem dX4_fill_40 : decode cX4_fill 40 = .ok (.aload_n 0, 1) := by decide +kernel
theorem dX4_fill_41 : decode cX4_fill 41 = .ok (.aload_n 0, 1) := by decide +kernel
theorem dX4_fill_42 : decode cX4_fill 42 = .ok (.getfield 22, 3) := by decide +kernel
theorem dX4_fill_45 : decode cX4_fill 45 = .ok (.iconst 2, 1) := by decide +kernel
theorem dX4_fill_46 : decode cX4_fill 46 = .ok (.iload_n 1, 1) := by decide +kernel
theorem dX4_fill_47 : decode cX4_fill 47 = .ok (.imul, 1) := by decide +kernel
theorem dX4_fill_48 : decode cX4_fill 48 = .ok (.iaload, 1) := by decide +kernel
theorem dX4_fill_49 : decode cX4_fill 49 = .ok (.invokevirtual 80, 3) := by decide +kernel
theorem dX4_fill_52 : decode cX4_fill 52 = .ok (.ifCond .eq 57, 3) := by decide +kernel
theorem dX4_fill_55 : decode cX4_fill 55 = .ok (.aload_n 0, 1) := by decide +kernel
theorem dX4_fill_56 : decode cX4_fill 56 = .ok (.aload_n 0, 1) := by decide +kernel
theorem dX4_fill_57 : decode cX4_fill 57 = .ok (.getfield 22, 3) := by decide +kernel
theorem dX4_fill_60 : decode cX4_fill 60 = .ok (.iconst 2, 1) := by decide +kernel
theorem dX4_fill_61 : decode cX4_fill 61 = .ok (.iload_n 1, 1) := by decide +kernel
theorem dX4_fill_62 : decode cX4_fill 62 = .ok (.imul, 1) := by decide +kernel
theorem dX4_fill_63 : decode cX4_fill 63 = .ok (.iaload, 1) := by decide +kernel
theorem dX4_fill_64 : decode cX4_fill 64 = .ok (.aload_n 0, 1) := by decide +kernel
theorem dX4_fill_65 : decode cX4_fill 65 = .ok (.getfield 22, 3) := by decide +kernel
theorem dX4_fill_68 : decode cX4_fill 68 = .ok (.iconst 2, 1) := by decide +kernel
theorem dX4_fill_69 : decode cX4_fill 69 = .ok (.iload_n 1, 1) := by decide +kernel
theorem dX4_fill_70 : decode cX4_fill 70 = .ok (.imul, 1) := by decide +kernel
theorem dX4_fill_71 : decode cX4_fill 71 = .ok (.iconst 1, 1) := by decide +kernel
theorem dX4_fill_72 : decode cX4_fill 72 = .ok (.iadd, 1) := by decide +kernel
theorem dX4_fill_73 : decode cX4_fill 73 = .ok (.iaload, 1) := by decide +kernel
theorem dX4_fill_74 : decode cX4_fill 74 = .ok (.invokevirtual 90, 3) := by decide +kernel
theorem dX4_fill_77 : decode cX4_fill 77 = .ok (.ifCond .eq 32, 3) := by decide +kernel
theorem dX4_fill_80 : decode cX4_fill 80 = .ok (.aload_n 0, 1) := by decide +kernel
theorem dX4_fill_81 : decode cX4_fill 81 = .ok (.aload_n 0, 1) := by decide +kernel
theorem dX4_fill_82 : decode cX4_fill 82 = .ok (.getfield 22, 3) := by decide +kernel
theorem dX4_fill_85 : decode cX4_fill 85 = .ok (.iconst 2, 1) := by decide +kernel
theorem dX4_fill_86 : decode cX4_fill 86 = .ok (.iload_n 1, 1) := by decide +kernel
theorem dX4_fill_87 : decode cX4_fill 87 = .ok (.imul, 1) := by decide +kernel
theorem dX4_fill_88 : decode cX4_fill 88 = .ok (.iaload, 1) := by decide +kernel
theorem dX4_fill_89 : decode cX4_fill 89 = .ok (.iconst 4, 1) := by decide +kernel
theorem dX4_fill_90 : decode cX4_fill 90 = .ok (.aload_n 0, 1) := by decide +kernel
theorem dX4_fill_91 : decode cX4_fill 91 = .ok (.getfield 22, 3) := by decide +kernel
theorem dX4_fill_94 : decode cX4_fill 94 = .ok (.iconst 2, 1) := by decide +kernel
theorem dX4_fill_95 : decode cX4_fill 95 = .ok (.iload_n 1, 1) := by decide +kernel
theorem dX4_fill_96 : decode cX4_fill 96 = .ok (.imul, 1) := by decide +kernel
theorem dX4_fill_97 : decode cX4_fill 97 = .ok (.iconst 1, 1) := by decide +kernel
theorem dX4_fill_98 : decode cX4_fill 98 = .ok (.iadd, 1) := by decide +kernel
theorem dX4_fill_99 : decode cX4_fill 99 = .ok (.iaload, 1) := by decide +kernel
theorem dX4_fill_100 : decode cX4_fill 100 = .ok (.invokevirtual 68, 3) := by decide +kernel
theorem dX4_fill_103 : decode cX4_fill 103 = .ok (.iinc 1 1, 3) := by decide +kernel
theorem dX4_fill_106 : decode cX4_fill 106 = .ok (.goto (-74), 3) := by decide +kernel
theorem dX4_fill_109 : decode cX4_fill 109 = .ok (.aload_n 0, 1) := by decide +kernel
theorem dX4_fill_110 : decode cX4_fill 110 = .ok (.iconst 0, 1) := by decide +kernel
theorem dX4_fill_111 : decode cX4_fill 111 = .ok (.putfield 103, 3) := by decide +kernel
theorem dX4_fill_114 : decode cX4_fill 114 = .ok (.iload_n 1, 1) := by decide +kernel
theorem dX4_fill_115 : decode cX4_fill 115 = .ok (.ireturn, 1) := by decide +kernel
set_option maxRecDepth 20000 in
theorem ggX4_toldBox_X4_open : GoodIn wsX4_toldBox wsX4_open := goodIn_r _ [6, 7, 8, 9, 5, 10, 11, 12, 13, 14, 15, 16, 17, 18, 19, 20, 21, 22, 23, 24, 25, 26, 27, 37, 38, 39, 40, 41, 42, 43, 44, 45, 46, 47, 48, 49, 50] (by decide +kernel) (by decide +kernel)
set_option maxRecDepth 20000 in
theorem gX4_toldBox_X4_open : GoodIn wsX4_toldBox (wsV RX4 93 RX4 yX4_open wsX4_open) := goodIn_app (goodIn_of _ (by decide +kernel)) ggX4_toldBox_X4_open
set_option maxRecDepth 20000 in
theorem ggX4_toldBox_X4_of : GoodIn wsX4_toldBox wsX4_of := goodIn_r _ [15, 11, 37, 38, 39, 40, 41, 42, 43, 44, 45, 46, 47, 48, 49, 50] (by decide +kernel) (by decide +kernel)
set_option maxRecDepth 20000 in
theorem gX4_toldBox_X4_of : GoodIn wsX4_toldBox (wsV RX4 43 RX4 yX4_of wsX4_of) := goodIn_app (goodIn_of _ (by decide +kernel)) ggX4_toldBox_X4_of
set_option maxRecDepth 20000 in
theorem ggX4_toldBox_X4_reckon : GoodIn wsX4_toldBox wsX4_reckon := goodIn_r _ [31, 11, 1, 32, 12, 13, 14, 5, 15, 16, 17, 18, 19, 37, 38, 39, 40, 41, 42, 43, 44, 45, 46, 47, 48, 49, 50] (by decide +kernel) (by decide +kernel)
set_option maxRecDepth 20000 in
theorem gX4_toldBox_X4_reckon : GoodIn wsX4_toldBox (wsV RX4 132 RX4 yX4_reckon wsX4_reckon) := goodIn_app (goodIn_of _ (by decide +kernel)) ggX4_toldBox_X4_reckon
set_option maxRecDepth 20000 in
theorem ggX4_toldBox_X4_isTold : GoodIn wsX4_toldBox wsX4_isTold := goodIn_r _ [19, 12, 13, 14, 5, 15, 11, 37, 38, 39, 40, 41, 42, 43, 44, 45, 46, 47, 48, 49, 50] (by decide +kernel) (by decide +kernel)
set_option maxRecDepth 20000 in
theorem gX4_toldBox_X4_isTold : GoodIn wsX4_toldBox (wsV RX4 51 RX4 yX4_isTold wsX4_isTold) := goodIn_app (goodIn_of _ (by decide +kernel)) ggX4_toldBox_X4_isTold
set_option maxRecDepth 20000 in
theorem ggX4_toldBox_X4_wants : GoodIn wsX4_toldBox wsX4_wants := goodIn_r _ [36, 12, 13, 14, 5, 15, 11, 16, 17, 18, 19, 37, 38, 39, 40, 41, 42, 43, 44, 45, 46, 47, 48, 49, 50] (by decide +kernel) (by decide +kernel)
set_option maxRecDepth 20000 in
theorem gX4_toldBox_X4_wants : GoodIn wsX4_toldBox (wsV RX4 61 RX4 yX4_wants wsX4_wants) := goodIn_app (goodIn_of _ (by decide +kernel)) ggX4_toldBox_X4_wants
theorem dX4_toldBox_0 : decode cX4_toldBox 0 = .ok (.aload_n 0, 1) := by decide +kernel
theorem dX4_toldBox_1 : decode cX4_toldBox 1 = .ok (.invokevirtual 93, 3) := by decide +kernel
theorem dX4_toldBox_4 : decode cX4_toldBox 4 = .ok (.istore_n 3, 1) := by decide +kernel
theorem dX4_toldBox_5 : decode cX4_toldBox 5 = .ok (.iload_n 2, 1) := by decide +kernel
theorem dX4_toldBox_6 : decode cX4_toldBox 6 = .ok (.tableswitch 107 3 7 #[34, 34, 41, 77, 92], 34) := by decide +kernel
theorem dX4_toldBox_40 : decode cX4_toldBox 40 = .ok (.aload_n 0, 1) := by decide +kernel
theorem dX4_toldBox_41 : decode cX4_toldBox 41 = .ok (.iload_n 1, 1) := by decide +kernel
theorem dX4_toldBox_42 : decode cX4_toldBox 42 = .ok (.iload_n 2, 1) := by decide +kernel
theorem dX4_toldBox_43 : decode cX4_toldBox 43 = .ok (.invokevirtual 43, 3) := by decide +kernel
theorem dX4_toldBox_46 : decode cX4_toldBox 46 = .ok (.ireturn, 1) := by decide +kernel
theorem dX4_toldBox_47 : decode cX4_toldBox 47 = .ok (.aload_n 0, 1) := by decide +kernel
theorem dX4_toldBox_48 : decode cX4_toldBox 48 = .ok (.iload_n 3, 1) := by decide +kernel
theorem dX4_toldBox_49 : decode cX4_toldBox 49 = .ok (.invokevirtual 132, 3) := by decide +kernel
theorem dX4_toldBox_52 : decode cX4_toldBox 52 = .ok (.aload_n 0, 1) := by decide +kernel
theorem dX4_toldBox_53 : decode cX4_toldBox 53 = .ok (.iload_n 1, 1) := by decide +kernel
theorem dX4_toldBox_54 : decode cX4_toldBox 54 = .ok (.iconst 0, 1) := by decide +kernel
theorem dX4_toldBox_55 : decode cX4_toldBox 55 = .ok (.invokevirtual 43, 3) := by decide +kernel
theorem dX4_toldBox_58 : decode cX4_toldBox 58 = .ok (.iconst 1, 1) := by decide +kernel
theorem dX4_toldBox_59 : decode cX4_toldBox 59 = .ok (.if_icmp .eq 13, 3) := by decide +kernel
theorem dX4_toldBox_62 : decode cX4_toldBox 62 = .ok (.aload_n 0, 1) := by decide +kernel
theorem dX4_toldBox_63 : decode cX4_toldBox 63 = .ok (.iload_n 1, 1) := by decide +kernel
theorem dX4_toldBox_64 : decode cX4_toldBox 64 = .ok (.iconst 0, 1) := by decide +kernel
theorem dX4_toldBox_65 : decode cX4_toldBox 65 = .ok (.invokevirtual 43, 3) := by decide +kernel
theorem dX4_toldBox_68 : decode cX4_toldBox 68 = .ok (.iconst 2, 1) := by decide +kernel
theorem dX4_toldBox_69 : decode cX4_toldBox 69 = .ok (.if_icmp .ne 7, 3) := by decide +kernel
theorem dX4_toldBox_72 : decode cX4_toldBox 72 = .ok (.iconst (-1), 1) := by decide +kernel
theorem dX4_toldBox_73 : decode cX4_toldBox 73 = .ok (.goto 9, 3) := by decide +kernel
theorem dX4_toldBox_76 : decode cX4_toldBox 76 = .ok (.aload_n 0, 1) := by decide +kernel
theorem dX4_toldBox_77 : decode cX4_toldBox 77 = .ok (.getfield 19, 3) := by decide +kernel
theorem dX4_toldBox_80 : decode cX4_toldBox 80 = .ok (.iload_n 1, 1) := by decide +kernel
theorem dX4_toldBox_81 : decode cX4_toldBox 81 = .ok (.iaload, 1) := by decide +kernel
theorem dX4_toldBox_82 : decode cX4_toldBox 82 = .ok (.ireturn, 1) := by decide +kernel
theorem dX4_toldBox_83 : decode cX4_toldBox 83 = .ok (.aload_n 0, 1) := by decide +kernel
theorem dX4_toldBox_84 : decode cX4_toldBox 84 = .ok (.iload_n 1, 1) := by decide +kernel
theorem dX4_toldBox_85 : decode cX4_toldBox 85 = .ok (.iload_n 3, 1) := by decide +kernel
theorem dX4_toldBox_86 : decode cX4_toldBox 86 = .ok (.invokevirtual 51, 3) := by decide +kernel
theorem dX4_toldBox_89 : decode cX4_toldBox 89 = .ok (.ifCond .eq 7, 3) := by decide +kernel
theorem dX4_toldBox_92 : decode cX4_toldBox 92 = .ok (.iconst 1, 1) := by decide +kernel
theorem dX4_toldBox_93 : decode cX4_toldBox 93 = .ok (.goto 4, 3) := by decide +kernel
theorem dX4_toldBox_96 : decode cX4_toldBox 96 = .ok (.iconst 0, 1) := by decide +kernel
theorem dX4_toldBox_97 : decode cX4_toldBox 97 = .ok (.ireturn, 1) := by decide +kernel
theorem dX4_toldBox_98 : decode cX4_toldBox 98 = .ok (.aload_n 0, 1) := by decide +kernel
theorem dX4_toldBox_99 : decode cX4_toldBox 99 = .ok (.iload_n 1, 1) := by decide +kernel
theorem dX4_toldBox_100 : decode cX4_toldBox 100 = .ok (.iload_n 3, 1) := by decide +kernel
theorem dX4_toldBox_101 : decode cX4_toldBox 101 = .ok (.invokevirtual 61, 3) := by decide +kernel
theorem dX4_toldBox_104 : decode cX4_toldBox 104 = .ok (.ifCond .eq 7, 3) := by decide +kernel
theorem dX4_toldBox_107 : decode cX4_toldBox 107 = .ok (.iconst 1, 1) := by decide +kernel
theorem dX4_toldBox_108 : decode cX4_toldBox 108 = .ok (.goto 4, 3) := by decide +kernel
theorem dX4_toldBox_111 : decode cX4_toldBox 111 = .ok (.iconst 0, 1) := by decide +kernel
theorem dX4_toldBox_112 : decode cX4_toldBox 112 = .ok (.ireturn, 1) := by decide +kernel
theorem dX4_toldBox_113 : decode cX4_toldBox 113 = .ok (.aload_n 0, 1) := by decide +kernel
theorem dX4_toldBox_114 : decode cX4_toldBox 114 = .ok (.iload_n 1, 1) := by decide +kernel
theorem dX4_toldBox_115 : decode cX4_toldBox 115 = .ok (.iload_n 2, 1) := by decide +kernel
theorem dX4_toldBox_116 : decode cX4_toldBox 116 = .ok (.invokevirtual 43, 3) := by decide +kernel
theorem dX4_toldBox_119 : decode cX4_toldBox 119 = .ok (.ireturn, 1) := by decide +kernel
set_option maxRecDepth 20000 in
theorem ggX4_box_X4_isBox : GoodIn wsX4_box wsX4_isBox := goodIn_r _ [6, 7, 49, 50, 51, 52, 53, 54, 55, 56, 57, 58, 59, 60, 61, 62] (by decide +kernel) (by decide +kernel)
set_option maxRecDepth 20000 in
theorem gX4_box_X4_isBox : GoodIn wsX4_box (wsV RX4 80 RX4 yX4_isBox wsX4_isBox) := goodIn_app (goodIn_of _ (by decide +kernel)) ggX4_box_X4_isBox
set_option maxRecDepth 20000 in
theorem ggX4_box_X4_in : GoodIn wsX4_box wsX4_in := goodIn_r _ [10] (by decide +kernel) (by decide +kernel)
set_option maxRecDepth 20000 in
theorem gX4_box_X4_in : GoodIn wsX4_box (va_wsS RX4 36 yX4_in wsX4_in) := goodIn_app (goodIn_of _ (by decide +kernel)) ggX4_box_X4_in
set_option maxRecDepth 20000 in
theorem ggX4_box_X4_toldBox : GoodIn wsX4_box wsX4_toldBox := goodIn_r _ [14, 15, 16, 17, 18, 5, 19, 20, 21, 22, 23, 7, 24, 25, 26, 27, 28, 29, 30, 31, 32, 33, 34, 35, 36, 37, 38, 39, 40, 41, 42, 43, 44, 45, 46, 47, 48, 49, 50, 51, 52, 53, 54, 55, 56, 57, 58, 59, 60, 61, 62] (by decide +kernel) (by decide +kernel)
set_option maxRecDepth 20000 in
theorem gX4_box_X4_toldBox : GoodIn wsX4_box (wsV RX4 136 RX4 yX4_toldBox wsX4_toldBox) := goodIn_app (goodIn_of _ (by decide +kernel)) ggX4_box_X4_toldBox
theorem dX4_box_0 : decode cX4_box 0 = .ok (.aload_n 0, 1) := by decide +kernel
theorem dX4_box_1 : decode cX4_box 1 = .ok (.aload_n 0, 1) := by decide +kernel
theorem dX4_box_2 : decode cX4_box 2 = .ok (.iload_n 1, 1) := by decide +kernel
theorem dX4_box_3 : decode cX4_box 3 = .ok (.invokevirtual 80, 3) := by decide +kernel
theorem dX4_box_6 : decode cX4_box 6 = .ok (.ifCond .ne 7, 3) := by decide +kernel
theorem dX4_box_9 : decode cX4_box 9 = .ok (.iconst 1, 1) := by decide +kernel
theorem dX4_box_10 : decode cX4_box 10 = .ok (.goto 18, 3) := by decide +kernel
theorem dX4_box_13 : decode cX4_box 13 = .ok (.iload_n 2, 1) := by decide +kernel
theorem dX4_box_14 : decode cX4_box 14 = .ok (.iconst 0, 1) := by decide +kernel
theorem dX4_box_15 : decode cX4_box 15 = .ok (.bipush 7, 2) := by decide +kernel
theorem dX4_box_17 : decode cX4_box 17 = .ok (.invokestatic 36, 3) := by decide +kernel
theorem dX4_box_20 : decode cX4_box 20 = .ok (.ifCond .eq 7, 3) := by decide +kernel
theorem dX4_box_23 : decode cX4_box 23 = .ok (.iconst 0, 1) := by decide +kernel
theorem dX4_box_24 : decode cX4_box 24 = .ok (.goto 4, 3) := by decide +kernel
theorem dX4_box_27 : decode cX4_box 27 = .ok (.iconst 2, 1) := by decide +kernel
theorem dX4_box_28 : decode cX4_box 28 = .ok (.putfield 32, 3) := by decide +kernel
theorem dX4_box_31 : decode cX4_box 31 = .ok (.aload_n 0, 1) := by decide +kernel
theorem dX4_box_32 : decode cX4_box 32 = .ok (.getfield 32, 3) := by decide +kernel
theorem dX4_box_35 : decode cX4_box 35 = .ok (.ifCond .le 7, 3) := by decide +kernel
theorem dX4_box_38 : decode cX4_box 38 = .ok (.iconst 0, 1) := by decide +kernel
theorem dX4_box_39 : decode cX4_box 39 = .ok (.goto 9, 3) := by decide +kernel
theorem dX4_box_42 : decode cX4_box 42 = .ok (.aload_n 0, 1) := by decide +kernel
theorem dX4_box_43 : decode cX4_box 43 = .ok (.iload_n 1, 1) := by decide +kernel
theorem dX4_box_44 : decode cX4_box 44 = .ok (.iload_n 2, 1) := by decide +kernel
theorem dX4_box_45 : decode cX4_box 45 = .ok (.invokevirtual 136, 3) := by decide +kernel
theorem dX4_box_48 : decode cX4_box 48 = .ok (.ireturn, 1) := by decide +kernel
set_option maxRecDepth 20000 in
theorem ggX4_toldPart_X4_open : GoodIn wsX4_toldPart wsX4_open := goodIn_r _ [6, 7, 8, 9, 5, 10, 1, 11, 12, 13, 14, 15, 16, 17, 18, 19, 20, 21, 22, 23, 24, 25, 26, 31, 32, 33, 34, 35, 36, 37, 38, 39, 40, 41, 42, 43, 44] (by decide +kernel) (by decide +kernel)
set_option maxRecDepth 20000 in
theorem gX4_toldPart_X4_open : GoodIn wsX4_toldPart (wsV RX4 93 RX4 yX4_open wsX4_open) := goodIn_app (goodIn_of _ (by decide +kernel)) ggX4_toldPart_X4_open
set_option maxRecDepth 20000 in
theorem ggX4_toldPart_X4_isClosed : GoodIn wsX4_toldPart wsX4_isClosed := goodIn_r _ [22, 1, 23, 24, 25, 5, 26, 11, 12, 13, 14, 15, 16, 17, 18, 31, 32, 33, 34, 35, 36, 37, 38, 39, 40, 41, 42, 43, 44] (by decide +kernel) (by decide +kernel)
set_option maxRecDepth 20000 in
theorem gX4_toldPart_X4_isClosed : GoodIn wsX4_toldPart (wsV RX4 58 RX4 yX4_isClosed wsX4_isClosed) := goodIn_app (goodIn_of _ (by decide +kernel)) ggX4_toldPart_X4_isClosed
set_option maxRecDepth 20000 in
theorem ggX4_toldPart_X4_of : GoodIn wsX4_toldPart wsX4_of := goodIn_r _ [14, 1, 31, 32, 33, 34, 35, 36, 37, 38, 39, 40, 41, 42, 43, 44] (by decide +kernel) (by decide +kernel)
set_option maxRecDepth 20000 in
theorem gX4_toldPart_X4_of : GoodIn wsX4_toldPart (wsV RX4 43 RX4 yX4_of wsX4_of) := goodIn_app (goodIn_of _ (by decide +kernel)) ggX4_toldPart_X4_of
set_option maxRecDepth 20000 in
theorem ggX4_toldPart_X4_wants : GoodIn wsX4_toldPart wsX4_wants := goodIn_r _ [30, 11, 12, 13, 5, 14, 1, 15, 16, 17, 18, 31, 32, 33, 34, 35, 36, 37, 38, 39, 40, 41, 42, 43, 44] (by decide +kernel) (by decide +kernel)
set_option maxRecDepth 20000 in
theorem gX4_toldPart_X4_wants : GoodIn wsX4_toldPart (wsV RX4 61 RX4 yX4_wants wsX4_wants) := goodIn_app (goodIn_of _ (by decide +kernel)) ggX4_toldPart_X4_wants
theorem dX4_toldPart_0 : decode cX4_toldPart 0 = .ok (.aload_n 0, 1) := by decide +kernel
theorem dX4_toldPart_1 : decode cX4_toldPart 1 = .ok (.invokevirtual 93, 3) := by decide +kernel
theorem dX4_toldPart_4 : decode cX4_toldPart 4 = .ok (.istore_n 3, 1) := by decide +kernel
theorem dX4_toldPart_5 : decode cX4_toldPart 5 = .ok (.iconst 0, 1) := by decide +kernel
theorem dX4_toldPart_6 : decode cX4_toldPart 6 = .ok (.istore 4, 2) := by decide +kernel
theorem dX4_toldPart_8 : decode cX4_toldPart 8 = .ok (.iload_n 2, 1) := by decide +kernel
theorem dX4_toldPart_9 : decode cX4_toldPart 9 = .ok (.lookupswitch 48 #[(0, 27), (5, 33)], 27) := by decide +kernel
theorem dX4_toldPart_36 : decode cX4_toldPart 36 = .ok (.iload_n 3, 1) := by decide +kernel
theorem dX4_toldPart_37 : decode cX4_toldPart 37 = .ok (.iload_n 1, 1) := by decide +kernel
theorem dX4_toldPart_38 : decode cX4_toldPart 38 = .ok (.ishr, 1) := by decide +kernel
theorem dX4_toldPart_39 : decode cX4_toldPart 39 = .ok (.iconst 1, 1) := by decide +kernel
theorem dX4_toldPart_40 : decode cX4_toldPart 40 = .ok (.iand, 1) := by decide +kernel
theorem dX4_toldPart_41 : decode cX4_toldPart 41 = .ok (.ireturn, 1) := by decide +kernel
theorem dX4_toldPart_42 : decode cX4_toldPart 42 = .ok (.aload_n 0, 1) := by decide +kernel
theorem dX4_toldPart_43 : decode cX4_toldPart 43 = .ok (.iload_n 1, 1) := by decide +kernel
theorem dX4_toldPart_44 : decode cX4_toldPart 44 = .ok (.iload_n 3, 1) := by decide +kernel
theorem dX4_toldPart_45 : decode cX4_toldPart 45 = .ok (.invokevirtual 58, 3) := by decide +kernel
theorem dX4_toldPart_48 : decode cX4_toldPart 48 = .ok (.ifCond .eq 7, 3) := by decide +kernel
theorem dX4_toldPart_51 : decode cX4_toldPart 51 = .ok (.iconst 1, 1) := by decide +kernel
theorem dX4_toldPart_52 : decode cX4_toldPart 52 = .ok (.goto 4, 3) := by decide +kernel
theorem dX4_toldPart_55 : decode cX4_toldPart 55 = .ok (.iconst 0, 1) := by decide +kernel
theorem dX4_toldPart_56 : decode cX4_toldPart 56 = .ok (.ireturn, 1) := by decide +kernel
theorem dX4_toldPart_57 : decode cX4_toldPart 57 = .ok (.iconst 0, 1) := by decide +kernel
theorem dX4_toldPart_58 : decode cX4_toldPart 58 = .ok (.istore 5, 2) := by decide +kernel
theorem dX4_toldPart_60 : decode cX4_toldPart 60 = .ok (.iload 5, 2) := by decide +kernel
theorem dX4_toldPart_62 : decode cX4_toldPart 62 = .ok (.aload_n 0, 1) := by decide +kernel
theorem dX4_toldPart_63 : decode cX4_toldPart 63 = .ok (.getfield 7, 3) := by decide +kernel
theorem dX4_toldPart_66 : decode cX4_toldPart 66 = .ok (.iconst 0, 1) := by decide +kernel
theorem dX4_toldPart_67 : decode cX4_toldPart 67 = .ok (.iaload, 1) := by decide +kernel
theorem dX4_toldPart_68 : decode cX4_toldPart 68 = .ok (.if_icmp .ge 130, 3) := by decide +kernel
theorem dX4_toldPart_71 : decode cX4_toldPart 71 = .ok (.aload_n 0, 1) := by decide +kernel
theorem dX4_toldPart_72 : decode cX4_toldPart 72 = .ok (.iload 5, 2) := by decide +kernel
theorem dX4_toldPart_74 : decode cX4_toldPart 74 = .ok (.iconst 1, 1) := by decide +kernel
theorem dX4_toldPart_75 : decode cX4_toldPart 75 = .ok (.invokevirtual 43, 3) := by decide +kernel
theorem dX4_toldPart_78 : decode cX4_toldPart 78 = .ok (.iload_n 1, 1) := by decide +kernel
theorem dX4_toldPart_79 : decode cX4_toldPart 79 = .ok (.if_icmp .ne 7, 3) := by decide +kernel
theorem dX4_toldPart_82 : decode cX4_toldPart 82 = .ok (.iconst 1, 1) := by decide +kernel
theorem dX4_toldPart_83 : decode cX4_toldPart 83 = .ok (.goto 4, 3) := by decide +kernel
theorem dX4_toldPart_86 : decode cX4_toldPart 86 = .ok (.iconst 0, 1) := by decide +kernel
theorem dX4_toldPart_87 : decode cX4_toldPart 87 = .ok (.istore 6, 2) := by decide +kernel
theorem dX4_toldPart_89 : decode cX4_toldPart 89 = .ok (.aload_n 0, 1) := by decide +kernel
theorem dX4_toldPart_90 : decode cX4_toldPart 90 = .ok (.iload 5, 2) := by decide +kernel
theorem dX4_toldPart_92 : decode cX4_toldPart 92 = .ok (.iconst 2, 1) := by decide +kernel
theorem dX4_toldPart_93 : decode cX4_toldPart 93 = .ok (.invokevirtual 43, 3) := by decide +kernel
theorem dX4_toldPart_96 : decode cX4_toldPart 96 = .ok (.iload_n 1, 1) := by decide +kernel
theorem dX4_toldPart_97 : decode cX4_toldPart 97 = .ok (.if_icmp .ne 7, 3) := by decide +kernel
theorem dX4_toldPart_100 : decode cX4_toldPart 100 = .ok (.iconst 1, 1) := by decide +kernel
theorem dX4_toldPart_101 : decode cX4_toldPart 101 = .ok (.goto 4, 3) := by decide +kernel
theorem dX4_toldPart_104 : decode cX4_toldPart 104 = .ok (.iconst 0, 1) := by decide +kernel
theorem dX4_toldPart_105 : decode cX4_toldPart 105 = .ok (.istore 7, 2) := by decide +kernel
theorem dX4_toldPart_107 : decode cX4_toldPart 107 = .ok (.iload_n 2, 1) := by decide +kernel
theorem dX4_toldPart_108 : decode cX4_toldPart 108 = .ok (.iconst 1, 1) := by decide +kernel
theorem dX4_toldPart_109 : decode cX4_toldPart 109 = .ok (.if_icmp .ne 8, 3) := by decide +kernel
theorem dX4_toldPart_112 : decode cX4_toldPart 112 = .ok (.iload 6, 2) := by decide +kernel
theorem dX4_toldPart_114 : decode cX4_toldPart 114 = .ok (.goto 61, 3) := by decide +kernel
theorem dX4_toldPart_117 : decode cX4_toldPart 117 = .ok (.iload_n 2, 1) := by decide +kernel
theorem dX4_toldPart_118 : decode cX4_toldPart 118 = .ok (.iconst 2, 1) := by decide +kernel
theorem dX4_toldPart_119 : decode cX4_toldPart 119 = .ok (.if_icmp .ne 26, 3) := by decide +kernel
theorem dX4_toldPart_122 : decode cX4_toldPart 122 = .ok (.iload 6, 2) := by decide +kernel
theorem dX4_toldPart_124 : decode cX4_toldPart 124 = .ok (.ifCond .eq 17, 3) := by decide +kernel
theorem dX4_toldPart_127 : decode cX4_toldPart 127 = .ok (.aload_n 0, 1) := by decide +kernel
theorem dX4_toldPart_128 : decode cX4_toldPart 128 = .ok (.iload 5, 2) := by decide +kernel
theorem dX4_toldPart_130 : decode cX4_toldPart 130 = .ok (.iload_n 3, 1) := by decide +kernel
theorem dX4_toldPart_131 : decode cX4_toldPart 131 = .ok (.invokevirtual 61, 3) := by decide +kernel
theorem dX4_toldPart_134 : decode cX4_toldPart 134 = .ok (.ifCond .eq 7, 3) := by decide +kernel
theorem dX4_toldPart_137 : decode cX4_toldPart 137 = .ok (.iconst 1, 1) := by decide +kernel
theorem dX4_toldPart_138 : decode cX4_toldPart 138 = .ok (.goto 37, 3) := by decide +kernel
theorem dX4_toldPart_141 : decode cX4_toldPart 141 = .ok (.iconst 0, 1) := by decide +kernel
theorem dX4_toldPart_142 : decode cX4_toldPart 142 = .ok (.goto 33, 3) := by decide +kernel
theorem dX4_toldPart_145 : decode cX4_toldPart 145 = .ok (.iload 7, 2) := by decide +kernel
theorem dX4_toldPart_147 : decode cX4_toldPart 147 = .ok (.ifCond .eq 27, 3) := by decide +kernel
theorem dX4_toldPart_150 : decode cX4_toldPart 150 = .ok (.aload_n 0, 1) := by decide +kernel
theorem dX4_toldPart_151 : decode cX4_toldPart 151 = .ok (.iload 5, 2) := by decide +kernel
theorem dX4_toldPart_153 : decode cX4_toldPart 153 = .ok (.iconst 0, 1) := by decide +kernel
theorem dX4_toldPart_154 : decode cX4_toldPart 154 = .ok (.invokevirtual 43, 3) := by decide +kernel
theorem dX4_toldPart_157 : decode cX4_toldPart 157 = .ok (.iload_n 2, 1) := by decide +kernel
theorem dX4_toldPart_158 : decode cX4_toldPart 158 = .ok (.iconst 3, 1) := by decide +kernel
theorem dX4_toldPart_159 : decode cX4_toldPart 159 = .ok (.if_icmp .ne 7, 3) := by decide +kernel
theorem dX4_toldPart_162 : decode cX4_toldPart 162 = .ok (.iconst 1, 1) := by decide +kernel
theorem dX4_toldPart_163 : decode cX4_toldPart 163 = .ok (.goto 4, 3) := by decide +kernel
theorem dX4_toldPart_166 : decode cX4_toldPart 166 = .ok (.iconst 2, 1) := by decide +kernel
theorem dX4_toldPart_167 : decode cX4_toldPart 167 = .ok (.if_icmp .ne 7, 3) := by decide +kernel
theorem dX4_toldPart_170 : decode cX4_toldPart 170 = .ok (.iconst 1, 1) := by decide +kernel
theorem dX4_toldPart_171 : decode cX4_toldPart 171 = .ok (.goto 4, 3) := by decide +kernel
theorem dX4_toldPart_174 : decode cX4_toldPart 174 = .ok (.iconst 0, 1) := by decide +kernel
theorem dX4_toldPart_175 : decode cX4_toldPart 175 = .ok (.istore 8, 2) := by decide +kernel
theorem dX4_toldPart_177 : decode cX4_toldPart 177 = .ok (.iload 4, 2) := by decide +kernel
theorem dX4_toldPart_179 : decode cX4_toldPart 179 = .ok (.iload 8, 2) := by decide +kernel
theorem dX4_toldPart_181 : decode cX4_toldPart 181 = .ok (.ifCond .eq 7, 3) := by decide +kernel
theorem dX4_toldPart_184 : decode cX4_toldPart 184 = .ok (.iconst 1, 1) := by decide +kernel
theorem dX4_toldPart_185 : decode cX4_toldPart 185 = .ok (.goto 4, 3) := by decide +kernel
theorem dX4_toldPart_188 : decode cX4_toldPart 188 = .ok (.iconst 0, 1) := by decide +kernel
theorem dX4_toldPart_189 : decode cX4_toldPart 189 = .ok (.iadd, 1) := by decide +kernel
theorem dX4_toldPart_190 : decode cX4_toldPart 190 = .ok (.istore 4, 2) := by decide +kernel
theorem dX4_toldPart_192 : decode cX4_toldPart 192 = .ok (.iinc 5 1, 3) := by decide +kernel
theorem dX4_toldPart_195 : decode cX4_toldPart 195 = .ok (.goto (-135), 3) := by decide +kernel
theorem dX4_toldPart_198 : decode cX4_toldPart 198 = .ok (.iload 4, 2) := by decide +kernel
theorem dX4_toldPart_200 : decode cX4_toldPart 200 = .ok (.ireturn, 1) := by decide +kernel
set_option maxRecDepth 20000 in
theorem ggX4_part_X4_isPart : GoodIn wsX4_part wsX4_isPart := goodIn_r _ [5, 6, 7, 4, 8] (by decide +kernel) (by decide +kernel)
set_option maxRecDepth 20000 in
theorem gX4_part_X4_isPart : GoodIn wsX4_part (va_wsS RX4 72 yX4_isPart wsX4_isPart) := goodIn_app (goodIn_of _ (by decide +kernel)) ggX4_part_X4_isPart
set_option maxRecDepth 20000 in
theorem ggX4_part_X4_in : GoodIn wsX4_part wsX4_in := goodIn_r _ [8] (by decide +kernel) (by decide +kernel)
set_option maxRecDepth 20000 in
theorem gX4_part_X4_in : GoodIn wsX4_part (va_wsS RX4 36 yX4_in wsX4_in) := goodIn_app (goodIn_of _ (by decide +kernel)) ggX4_part_X4_in
set_option maxRecDepth 20000 in
theorem ggX4_part_X4_toldPart : GoodIn wsX4_part wsX4_toldPart := goodIn_r _ [12, 13, 14, 15, 16, 4, 17, 18, 19, 20, 21, 22, 23, 24, 25, 26, 27, 28, 29, 30, 31, 32, 33, 34, 35, 36, 37, 38, 39, 40, 41, 42, 43, 44, 45, 46, 47, 48, 49, 50, 51, 52, 53, 54, 55] (by decide +kernel) (by decide +kernel)
set_option maxRecDepth 20000 in
theorem gX4_part_X4_toldPart : GoodIn wsX4_part (wsV RX4 139 RX4 yX4_toldPart wsX4_toldPart) := goodIn_app (goodIn_of _ (by decide +kernel)) ggX4_part_X4_toldPart
theorem dX4_part_0 : decode cX4_part 0 = .ok (.aload_n 0, 1) := by decide +kernel
theorem dX4_part_1 : decode cX4_part 1 = .ok (.iload_n 1, 1) := by decide +kernel
theorem dX4_part_2 : decode cX4_part 2 = .ok (.invokestatic 72, 3) := by decide +kernel
theorem dX4_part_5 : decode cX4_part 5 = .ok (.ifCond .ne 7, 3) := by decide +kernel
theorem dX4_part_8 : decode cX4_part 8 = .ok (.iconst 1, 1) := by decide +kernel
theorem dX4_part_9 : decode cX4_part 9 = .ok (.goto 17, 3) := by decide +kernel
theorem dX4_part_12 : decode cX4_part 12 = .ok (.iload_n 2, 1) := by decide +kernel
theorem dX4_part_13 : decode cX4_part 13 = .ok (.iconst 0, 1) := by decide +kernel
theorem dX4_part_14 : decode cX4_part 14 = .ok (.iconst 5, 1) := by decide +kernel
theorem dX4_part_15 : decode cX4_part 15 = .ok (.invokestatic 36, 3) := by decide +kernel
theorem dX4_part_18 : decode cX4_part 18 = .ok (.ifCond .eq 7, 3) := by decide +kernel
theorem dX4_part_21 : decode cX4_part 21 = .ok (.iconst 0, 1) := by decide +kernel
theorem dX4_part_22 : decode cX4_part 22 = .ok (.goto 4, 3) := by decide +kernel
theorem dX4_part_25 : decode cX4_part 25 = .ok (.iconst 2, 1) := by decide +kernel
theorem dX4_part_26 : decode cX4_part 26 = .ok (.putfield 32, 3) := by decide +kernel
theorem dX4_part_29 : decode cX4_part 29 = .ok (.aload_n 0, 1) := by decide +kernel
theorem dX4_part_30 : decode cX4_part 30 = .ok (.getfield 32, 3) := by decide +kernel
theorem dX4_part_33 : decode cX4_part 33 = .ok (.ifCond .le 7, 3) := by decide +kernel
theorem dX4_part_36 : decode cX4_part 36 = .ok (.iconst 0, 1) := by decide +kernel
theorem dX4_part_37 : decode cX4_part 37 = .ok (.goto 9, 3) := by decide +kernel
theorem dX4_part_40 : decode cX4_part 40 = .ok (.aload_n 0, 1) := by decide +kernel
theorem dX4_part_41 : decode cX4_part 41 = .ok (.iload_n 1, 1) := by decide +kernel
theorem dX4_part_42 : decode cX4_part 42 = .ok (.iload_n 2, 1) := by decide +kernel
theorem dX4_part_43 : decode cX4_part 43 = .ok (.invokevirtual 139, 3) := by decide +kernel
theorem dX4_part_46 : decode cX4_part 46 = .ok (.ireturn, 1) := by decide +kernel
set_option maxRecDepth 20000 in
theorem ggX4_openBoxes_X4_isTold : GoodIn wsX4_openBoxes wsX4_isTold := goodIn_r _ [6, 7, 8, 9, 5, 10, 1, 11, 12, 13, 14, 15, 16, 17, 18, 19, 20, 21, 22, 23, 24] (by decide +kernel) (by decide +kernel)
set_option maxRecDepth 20000 in
theorem gX4_openBoxes_X4_isTold : GoodIn wsX4_openBoxes (wsV RX4 51 RX4 yX4_isTold wsX4_isTold) := goodIn_app (goodIn_of _ (by decide +kernel)) ggX4_openBoxes_X4_isTold
theorem dX4_openBoxes_0 : decode cX4_openBoxes 0 = .ok (.iconst 0, 1) := by decide +kernel
theorem dX4_openBoxes_1 : decode cX4_openBoxes 1 = .ok (.istore_n 2, 1) := by decide +kernel
theorem dX4_openBoxes_2 : decode cX4_openBoxes 2 = .ok (.iconst 0, 1) := by decide +kernel
theorem dX4_openBoxes_3 : decode cX4_openBoxes 3 = .ok (.istore_n 3, 1) := by decide +kernel
theorem dX4_openBoxes_4 : decode cX4_openBoxes 4 = .ok (.iload_n 3, 1) := by decide +kernel
theorem dX4_openBoxes_5 : decode cX4_openBoxes 5 = .ok (.aload_n 0, 1) := by decide +kernel
theorem dX4_openBoxes_6 : decode cX4_openBoxes 6 = .ok (.getfield 7, 3) := by decide +kernel
theorem dX4_openBoxes_9 : decode cX4_openBoxes 9 = .ok (.iconst 0, 1) := by decide +kernel
theorem dX4_openBoxes_10 : decode cX4_openBoxes 10 = .ok (.iaload, 1) := by decide +kernel
theorem dX4_openBoxes_11 : decode cX4_openBoxes 11 = .ok (.if_icmp .ge 26, 3) := by decide +kernel
theorem dX4_openBoxes_14 : decode cX4_openBoxes 14 = .ok (.iload_n 2, 1) := by decide +kernel
theorem dX4_openBoxes_15 : decode cX4_openBoxes 15 = .ok (.aload_n 0, 1) := by decide +kernel
theorem dX4_openBoxes_16 : decode cX4_openBoxes 16 = .ok (.iload_n 3, 1) := by decide +kernel
theorem dX4_openBoxes_17 : decode cX4_openBoxes 17 = .ok (.iload_n 1, 1) := by decide +kernel
theorem dX4_openBoxes_18 : decode cX4_openBoxes 18 = .ok (.invokevirtual 51, 3) := by decide +kernel
theorem dX4_openBoxes_21 : decode cX4_openBoxes 21 = .ok (.ifCond .eq 7, 3) := by decide +kernel
theorem dX4_openBoxes_24 : decode cX4_openBoxes 24 = .ok (.iconst 1, 1) := by decide +kernel
theorem dX4_openBoxes_25 : decode cX4_openBoxes 25 = .ok (.goto 4, 3) := by decide +kernel
theorem dX4_openBoxes_28 : decode cX4_openBoxes 28 = .ok (.iconst 0, 1) := by decide +kernel
theorem dX4_openBoxes_29 : decode cX4_openBoxes 29 = .ok (.iadd, 1) := by decide +kernel
theorem dX4_openBoxes_30 : decode cX4_openBoxes 30 = .ok (.istore_n 2, 1) := by decide +kernel
theorem dX4_openBoxes_31 : decode cX4_openBoxes 31 = .ok (.iinc 3 1, 3) := by decide +kernel
theorem dX4_openBoxes_34 : decode cX4_openBoxes 34 = .ok (.goto (-30), 3) := by decide +kernel
theorem dX4_openBoxes_37 : decode cX4_openBoxes 37 = .ok (.iload_n 2, 1) := by decide +kernel
theorem dX4_openBoxes_38 : decode cX4_openBoxes 38 = .ok (.ireturn, 1) := by decide +kernel
theorem dX4_bits_0 : decode cX4_bits 0 = .ok (.iconst 0, 1) := by decide +kernel
theorem dX4_bits_1 : decode cX4_bits 1 = .ok (.istore_n 1, 1) := by decide +kernel
theorem dX4_bits_2 : decode cX4_bits 2 = .ok (.iconst 0, 1) := by decide +kernel
theorem dX4_bits_3 : decode cX4_bits 3 = .ok (.istore_n 2, 1) := by decide +kernel
theorem dX4_bits_4 : decode cX4_bits 4 = .ok (.iload_n 2, 1) := by decide +kernel
theorem dX4_bits_5 : decode cX4_bits 5 = .ok (.iconst 5, 1) := by decide +kernel
theorem dX4_bits_6 : decode cX4_bits 6 = .ok (.if_icmp .ge 17, 3) := by decide +kernel
theorem dX4_bits_9 : decode cX4_bits 9 = .ok (.iload_n 1, 1) := by decide +kernel
theorem dX4_bits_10 : decode cX4_bits 10 = .ok (.iload_n 0, 1) := by decide +kernel
theorem dX4_bits_11 : decode cX4_bits 11 = .ok (.iload_n 2, 1) := by decide +kernel
theorem dX4_bits_12 : decode cX4_bits 12 = .ok (.ishr, 1) := by decide +kernel
theorem dX4_bits_13 : decode cX4_bits 13 = .ok (.iconst 1, 1) := by decide +kernel
theorem dX4_bits_14 : decode cX4_bits 14 = .ok (.iand, 1) := by decide +kernel
theorem dX4_bits_15 : decode cX4_bits 15 = .ok (.iadd, 1) := by decide +kernel
theorem dX4_bits_16 : decode cX4_bits 16 = .ok (.istore_n 1, 1) := by decide +kernel
theorem dX4_bits_17 : decode cX4_bits 17 = .ok (.iinc 2 1, 3) := by decide +kernel
theorem dX4_bits_20 : decode cX4_bits 20 = .ok (.goto (-16), 3) := by decide +kernel
theorem dX4_bits_23 : decode cX4_bits 23 = .ok (.iload_n 1, 1) := by decide +kernel
theorem dX4_bits_24 : decode cX4_bits 24 = .ok (.ireturn, 1) := by decide +kernel
set_option maxRecDepth 20000 in
theorem ggX4_counted_X4_open : GoodIn wsX4_counted wsX4_open := goodIn_r _ [7, 8, 9, 10, 6, 11, 1, 12, 13, 14, 15, 16, 17, 18, 19, 20, 21, 22, 23, 24, 25, 26, 27, 51, 52, 53, 54, 55, 56, 57, 58, 59, 60, 61, 62, 63, 64] (by decide +kernel) (by decide +kernel)
set_option maxRecDepth 20000 in
theorem gX4_counted_X4_open : GoodIn wsX4_counted (wsV RX4 93 RX4 yX4_open wsX4_open) := goodIn_app (goodIn_of _ (by decide +kernel)) ggX4_counted_X4_open
set_option maxRecDepth 20000 in
theorem ggX4_counted_X4_openBoxes : GoodIn wsX4_counted wsX4_openBoxes := goodIn_r _ [31, 1, 16, 17, 18, 6, 19, 12, 13, 14, 15, 51, 52, 53, 54, 55, 56, 57, 58, 59, 60, 61, 62, 63, 64] (by decide +kernel) (by decide +kernel)
set_option maxRecDepth 20000 in
theorem gX4_counted_X4_openBoxes : GoodIn wsX4_counted (wsV RX4 142 RX4 yX4_openBoxes wsX4_openBoxes) := goodIn_app (goodIn_of _ (by decide +kernel)) ggX4_counted_X4_openBoxes
set_option maxRecDepth 20000 in
theorem ggX4_counted_X4_wanting : GoodIn wsX4_counted wsX4_wanting := goodIn_r _ [35, 1, 36, 37, 38, 6, 39, 12, 13, 14, 15, 16, 17, 18, 19, 51, 52, 53, 54, 55, 56, 57, 58, 59, 60, 61, 62, 63, 64] (by decide +kernel) (by decide +kernel)
set_option maxRecDepth 20000 in
theorem gX4_counted_X4_wanting : GoodIn wsX4_counted (wsV RX4 97 RX4 yX4_wanting wsX4_wanting) := goodIn_app (goodIn_of _ (by decide +kernel)) ggX4_counted_X4_wanting
set_option maxRecDepth 20000 in
theorem ggX4_counted_X4_firstWanting : GoodIn wsX4_counted wsX4_firstWanting := goodIn_r _ [43, 1, 36, 37, 38, 6, 39, 12, 13, 14, 15, 16, 17, 18, 19, 51, 52, 53, 54, 55, 56, 57, 58, 59, 60, 61, 62, 63, 64] (by decide +kernel) (by decide +kernel)
set_option maxRecDepth 20000 in
theorem gX4_counted_X4_firstWanting : GoodIn wsX4_counted (wsV RX4 145 RX4 yX4_firstWanting wsX4_firstWanting) := goodIn_app (goodIn_of _ (by decide +kernel)) ggX4_counted_X4_firstWanting
set_option maxRecDepth 20000 in
theorem ggX4_counted_X4_bits : GoodIn wsX4_counted wsX4_bits := goodIn_r _ [46] (by decide +kernel) (by decide +kernel)
set_option maxRecDepth 20000 in
theorem gX4_counted_X4_bits : GoodIn wsX4_counted (va_wsS RX4 148 yX4_bits wsX4_bits) := goodIn_app (goodIn_of _ (by decide +kernel)) ggX4_counted_X4_bits
set_option maxRecDepth 20000 in
theorem ggX4_counted_X4_answered : GoodIn wsX4_counted wsX4_answered := goodIn_r _ [50, 1, 12, 13, 14, 6, 15, 51, 52, 53, 54, 55, 56, 57, 58, 59, 60, 61, 62, 63, 64] (by decide +kernel) (by decide +kernel)
set_option maxRecDepth 20000 in
theorem gX4_counted_X4_answered : GoodIn wsX4_counted (wsV RX4 100 RX4 yX4_answered wsX4_answered) := goodIn_app (goodIn_of _ (by decide +kernel)) ggX4_counted_X4_answered
theorem dX4_counted_0 : decode cX4_counted 0 = .ok (.aload_n 0, 1) := by decide +kernel
theorem dX4_counted_1 : decode cX4_counted 1 = .ok (.invokevirtual 93, 3) := by decide +kernel
theorem dX4_counted_4 : decode cX4_counted 4 = .ok (.istore_n 2, 1) := by decide +kernel
theorem dX4_counted_5 : decode cX4_counted 5 = .ok (.iload_n 1, 1) := by decide +kernel
theorem dX4_counted_6 : decode cX4_counted 6 = .ok (.tableswitch 97 0 7 #[46, 53, 59, 65, 71, 85, 90, 92], 46) := by decide +kernel
theorem dX4_counted_52 : decode cX4_counted 52 = .ok (.aload_n 0, 1) := by decide +kernel
theorem dX4_counted_53 : decode cX4_counted 53 = .ok (.getfield 7, 3) := by decide +kernel
theorem dX4_counted_56 : decode cX4_counted 56 = .ok (.iconst 0, 1) := by decide +kernel
theorem dX4_counted_57 : decode cX4_counted 57 = .ok (.iaload, 1) := by decide +kernel
theorem dX4_counted_58 : decode cX4_counted 58 = .ok (.ireturn, 1) := by decide +kernel
theorem dX4_counted_59 : decode cX4_counted 59 = .ok (.aload_n 0, 1) := by decide +kernel
theorem dX4_counted_60 : decode cX4_counted 60 = .ok (.iload_n 2, 1) := by decide +kernel
theorem dX4_counted_61 : decode cX4_counted 61 = .ok (.invokevirtual 142, 3) := by decide +kernel
theorem dX4_counted_64 : decode cX4_counted 64 = .ok (.ireturn, 1) := by decide +kernel
theorem dX4_counted_65 : decode cX4_counted 65 = .ok (.aload_n 0, 1) := by decide +kernel
theorem dX4_counted_66 : decode cX4_counted 66 = .ok (.iload_n 2, 1) := by decide +kernel
theorem dX4_counted_67 : decode cX4_counted 67 = .ok (.invokevirtual 97, 3) := by decide +kernel
theorem dX4_counted_70 : decode cX4_counted 70 = .ok (.ireturn, 1) := by decide +kernel
theorem dX4_counted_71 : decode cX4_counted 71 = .ok (.aload_n 0, 1) := by decide +kernel
theorem dX4_counted_72 : decode cX4_counted 72 = .ok (.iload_n 2, 1) := by decide +kernel
theorem dX4_counted_73 : decode cX4_counted 73 = .ok (.invokevirtual 145, 3) := by decide +kernel
theorem dX4_counted_76 : decode cX4_counted 76 = .ok (.ireturn, 1) := by decide +kernel
theorem dX4_counted_77 : decode cX4_counted 77 = .ok (.aload_n 0, 1) := by decide +kernel
theorem dX4_counted_78 : decode cX4_counted 78 = .ok (.iload_n 2, 1) := by decide +kernel
theorem dX4_counted_79 : decode cX4_counted 79 = .ok (.invokevirtual 97, 3) := by decide +kernel
theorem dX4_counted_82 : decode cX4_counted 82 = .ok (.ifCond .ne 7, 3) := by decide +kernel
theorem dX4_counted_85 : decode cX4_counted 85 = .ok (.iconst 1, 1) := by decide +kernel
theorem dX4_counted_86 : decode cX4_counted 86 = .ok (.goto 4, 3) := by decide +kernel
theorem dX4_counted_89 : decode cX4_counted 89 = .ok (.iconst 0, 1) := by decide +kernel
theorem dX4_counted_90 : decode cX4_counted 90 = .ok (.ireturn, 1) := by decide +kernel
theorem dX4_counted_91 : decode cX4_counted 91 = .ok (.iload_n 2, 1) := by decide +kernel
theorem dX4_counted_92 : decode cX4_counted 92 = .ok (.invokestatic 148, 3) := by decide +kernel
theorem dX4_counted_95 : decode cX4_counted 95 = .ok (.ireturn, 1) := by decide +kernel
theorem dX4_counted_96 : decode cX4_counted 96 = .ok (.iload_n 2, 1) := by decide +kernel
theorem dX4_counted_97 : decode cX4_counted 97 = .ok (.ireturn, 1) := by decide +kernel
theorem dX4_counted_98 : decode cX4_counted 98 = .ok (.aload_n 0, 1) := by decide +kernel
theorem dX4_counted_99 : decode cX4_counted 99 = .ok (.invokevirtual 100, 3) := by decide +kernel
theorem dX4_counted_102 : decode cX4_counted 102 = .ok (.ireturn, 1) := by decide +kernel
theorem dX4_counted_103 : decode cX4_counted 103 = .ok (.aload_n 0, 1) := by decide +kernel
theorem dX4_counted_104 : decode cX4_counted 104 = .ok (.getfield 40, 3) := by decide +kernel
theorem dX4_counted_107 : decode cX4_counted 107 = .ok (.ireturn, 1) := by decide +kernel
set_option maxRecDepth 20000 in
theorem ggX4_count_X4_in : GoodIn wsX4_count wsX4_in := goodIn_r _ [5] (by decide +kernel) (by decide +kernel)
set_option maxRecDepth 20000 in
theorem gX4_count_X4_in : GoodIn wsX4_count (va_wsS RX4 36 yX4_in wsX4_in) := goodIn_app (goodIn_of _ (by decide +kernel)) ggX4_count_X4_in
set_option maxRecDepth 20000 in
theorem ggX4_count_X4_counted : GoodIn wsX4_count wsX4_counted := goodIn_r _ [9, 10, 11, 12, 13, 14, 4, 15, 16, 17, 18, 19, 20, 21, 22, 23, 24, 25, 26, 27, 28, 29, 30, 31, 32, 33, 34, 35, 36, 37, 38, 39, 40, 41, 42, 43, 44, 45, 46, 47, 48, 49, 50, 51, 52, 53, 54, 55, 56, 57, 58, 59, 60, 61, 62, 63, 64, 65, 66, 67, 68, 69, 70, 71, 72] (by decide +kernel) (by decide +kernel)
set_option maxRecDepth 20000 in
theorem gX4_count_X4_counted : GoodIn wsX4_count (wsV RX4 151 RX4 yX4_counted wsX4_counted) := goodIn_app (goodIn_of _ (by decide +kernel)) ggX4_count_X4_counted
theorem dX4_count_0 : decode cX4_count 0 = .ok (.aload_n 0, 1) := by decide +kernel
theorem dX4_count_1 : decode cX4_count 1 = .ok (.iload_n 1, 1) := by decide +kernel
theorem dX4_count_2 : decode cX4_count 2 = .ok (.iconst 0, 1) := by decide +kernel
theorem dX4_count_3 : decode cX4_count 3 = .ok (.bipush 8, 2) := by decide +kernel
theorem dX4_count_5 : decode cX4_count 5 = .ok (.invokestatic 36, 3) := by decide +kernel
theorem dX4_count_8 : decode cX4_count 8 = .ok (.ifCond .eq 7, 3) := by decide +kernel
theorem dX4_count_11 : decode cX4_count 11 = .ok (.iconst 0, 1) := by decide +kernel
theorem dX4_count_12 : decode cX4_count 12 = .ok (.goto 4, 3) := by decide +kernel
theorem dX4_count_15 : decode cX4_count 15 = .ok (.iconst 1, 1) := by decide +kernel
theorem dX4_count_16 : decode cX4_count 16 = .ok (.putfield 32, 3) := by decide +kernel
theorem dX4_count_19 : decode cX4_count 19 = .ok (.aload_n 0, 1) := by decide +kernel
theorem dX4_count_20 : decode cX4_count 20 = .ok (.getfield 32, 3) := by decide +kernel
theorem dX4_count_23 : decode cX4_count 23 = .ok (.ifCond .le 7, 3) := by decide +kernel
theorem dX4_count_26 : decode cX4_count 26 = .ok (.iconst 0, 1) := by decide +kernel
theorem dX4_count_27 : decode cX4_count 27 = .ok (.goto 8, 3) := by decide +kernel
theorem dX4_count_30 : decode cX4_count 30 = .ok (.aload_n 0, 1) := by decide +kernel
theorem dX4_count_31 : decode cX4_count 31 = .ok (.iload_n 1, 1) := by decide +kernel
theorem dX4_count_32 : decode cX4_count 32 = .ok (.invokevirtual 151, 3) := by decide +kernel
theorem dX4_count_35 : decode cX4_count 35 = .ok (.ireturn, 1) := by decide +kernel
set_option maxRecDepth 20000 in
theorem ggX4_lastTotal_X4_reckon : GoodIn wsX4_lastTotal wsX4_reckon := goodIn_r _ [7, 1, 2, 8, 9, 10, 11, 6, 12, 13, 14, 15, 16, 17, 18, 19, 20, 21, 22, 23, 24, 25, 26, 27, 28, 29, 30] (by decide +kernel) (by decide +kernel)
set_option maxRecDepth 20000 in
theorem gX4_lastTotal_X4_reckon : GoodIn wsX4_lastTotal (wsV RX4 132 RX4 yX4_reckon wsX4_reckon) := goodIn_app (goodIn_of _ (by decide +kernel)) ggX4_lastTotal_X4_reckon
set_option maxRecDepth 20000 in
theorem ggX4_lastTotal_X4_of : GoodIn wsX4_lastTotal wsX4_of := goodIn_r _ [12, 1, 17, 18, 19, 20, 21, 22, 23, 24, 25, 26, 27, 28, 29, 30] (by decide +kernel) (by decide +kernel)
set_option maxRecDepth 20000 in
theorem gX4_lastTotal_X4_of : GoodIn wsX4_lastTotal (wsV RX4 43 RX4 yX4_of wsX4_of) := goodIn_app (goodIn_of _ (by decide +kernel)) ggX4_lastTotal_X4_of
theorem dX4_lastTotal_0 : decode cX4_lastTotal 0 = .ok (.aload_n 0, 1) := by decide +kernel
theorem dX4_lastTotal_1 : decode cX4_lastTotal 1 = .ok (.iload_n 1, 1) := by decide +kernel
theorem dX4_lastTotal_2 : decode cX4_lastTotal 2 = .ok (.invokevirtual 132, 3) := by decide +kernel
theorem dX4_lastTotal_5 : decode cX4_lastTotal 5 = .ok (.iconst (-1), 1) := by decide +kernel
theorem dX4_lastTotal_6 : decode cX4_lastTotal 6 = .ok (.istore_n 2, 1) := by decide +kernel
theorem dX4_lastTotal_7 : decode cX4_lastTotal 7 = .ok (.iconst 0, 1) := by decide +kernel
theorem dX4_lastTotal_8 : decode cX4_lastTotal 8 = .ok (.istore_n 3, 1) := by decide +kernel
theorem dX4_lastTotal_9 : decode cX4_lastTotal 9 = .ok (.iload_n 3, 1) := by decide +kernel
theorem dX4_lastTotal_10 : decode cX4_lastTotal 10 = .ok (.aload_n 0, 1) := by decide +kernel
theorem dX4_lastTotal_11 : decode cX4_lastTotal 11 = .ok (.getfield 7, 3) := by decide +kernel
theorem dX4_lastTotal_14 : decode cX4_lastTotal 14 = .ok (.iconst 0, 1) := by decide +kernel
theorem dX4_lastTotal_15 : decode cX4_lastTotal 15 = .ok (.iaload, 1) := by decide +kernel
theorem dX4_lastTotal_16 : decode cX4_lastTotal 16 = .ok (.if_icmp .ge 30, 3) := by decide +kernel
theorem dX4_lastTotal_19 : decode cX4_lastTotal 19 = .ok (.aload_n 0, 1) := by decide +kernel
theorem dX4_lastTotal_20 : decode cX4_lastTotal 20 = .ok (.iload_n 3, 1) := by decide +kernel
theorem dX4_lastTotal_21 : decode cX4_lastTotal 21 = .ok (.iconst 0, 1) := by decide +kernel
theorem dX4_lastTotal_22 : decode cX4_lastTotal 22 = .ok (.invokevirtual 43, 3) := by decide +kernel
theorem dX4_lastTotal_25 : decode cX4_lastTotal 25 = .ok (.iconst 3, 1) := by decide +kernel
theorem dX4_lastTotal_26 : decode cX4_lastTotal 26 = .ok (.if_icmp .ne 12, 3) := by decide +kernel
theorem dX4_lastTotal_29 : decode cX4_lastTotal 29 = .ok (.aload_n 0, 1) := by decide +kernel
theorem dX4_lastTotal_30 : decode cX4_lastTotal 30 = .ok (.getfield 19, 3) := by decide +kernel
theorem dX4_lastTotal_33 : decode cX4_lastTotal 33 = .ok (.iload_n 3, 1) := by decide +kernel
theorem dX4_lastTotal_34 : decode cX4_lastTotal 34 = .ok (.iaload, 1) := by decide +kernel
theorem dX4_lastTotal_35 : decode cX4_lastTotal 35 = .ok (.goto 4, 3) := by decide +kernel
theorem dX4_lastTotal_38 : decode cX4_lastTotal 38 = .ok (.iload_n 2, 1) := by decide +kernel
theorem dX4_lastTotal_39 : decode cX4_lastTotal 39 = .ok (.istore_n 2, 1) := by decide +kernel
theorem dX4_lastTotal_40 : decode cX4_lastTotal 40 = .ok (.iinc 3 1, 3) := by decide +kernel
theorem dX4_lastTotal_43 : decode cX4_lastTotal 43 = .ok (.goto (-34), 3) := by decide +kernel
theorem dX4_lastTotal_46 : decode cX4_lastTotal 46 = .ok (.iload_n 2, 1) := by decide +kernel
theorem dX4_lastTotal_47 : decode cX4_lastTotal 47 = .ok (.ireturn, 1) := by decide +kernel
set_option maxRecDepth 20000 in
theorem ggX4_withAnswer_X4_of : GoodIn wsX4_withAnswer wsX4_of := goodIn_r _ [5, 6, 49, 50, 51, 52, 53, 54, 55, 56, 57, 58, 59, 60, 61, 62] (by decide +kernel) (by decide +kernel)
set_option maxRecDepth 20000 in
theorem gX4_withAnswer_X4_of : GoodIn wsX4_withAnswer (wsV RX4 43 RX4 yX4_of wsX4_of) := goodIn_app (goodIn_of _ (by decide +kernel)) ggX4_withAnswer_X4_of
set_option maxRecDepth 20000 in
theorem ggX4_withAnswer_X4_lay : GoodIn wsX4_withAnswer wsX4_lay := goodIn_r _ [10, 6, 49, 50, 51, 52, 53, 54, 55, 56, 57, 58, 59, 60, 61, 62] (by decide +kernel) (by decide +kernel)
set_option maxRecDepth 20000 in
theorem gX4_withAnswer_X4_lay : GoodIn wsX4_withAnswer (wsV RX4 68 RX4 yX4_lay wsX4_lay) := goodIn_app (goodIn_of _ (by decide +kernel)) ggX4_withAnswer_X4_lay
set_option maxRecDepth 20000 in
theorem ggX4_withAnswer_X4_open : GoodIn wsX4_withAnswer wsX4_open := goodIn_r _ [14, 15, 16, 17, 4, 18, 6, 1, 2, 3, 5, 19, 20, 21, 22, 23, 24, 25, 26, 27, 28, 29, 30, 49, 50, 51, 52, 53, 54, 55, 56, 57, 58, 59, 60, 61, 62] (by decide +kernel) (by decide +kernel)
set_option maxRecDepth 20000 in
theorem gX4_withAnswer_X4_open : GoodIn wsX4_withAnswer (wsV RX4 93 RX4 yX4_open wsX4_open) := goodIn_app (goodIn_of _ (by decide +kernel)) ggX4_withAnswer_X4_open
set_option maxRecDepth 20000 in
theorem ggX4_withAnswer_X4_wanting : GoodIn wsX4_withAnswer wsX4_wanting := goodIn_r _ [34, 6, 35, 36, 37, 4, 38, 1, 2, 3, 5, 19, 20, 21, 22, 49, 50, 51, 52, 53, 54, 55, 56, 57, 58, 59, 60, 61, 62] (by decide +kernel) (by decide +kernel)
set_option maxRecDepth 20000 in
theorem gX4_withAnswer_X4_wanting : GoodIn wsX4_withAnswer (wsV RX4 97 RX4 yX4_wanting wsX4_wanting) := goodIn_app (goodIn_of _ (by decide +kernel)) ggX4_withAnswer_X4_wanting
set_option maxRecDepth 20000 in
theorem ggX4_withAnswer_X4_lastTotal : GoodIn wsX4_withAnswer wsX4_lastTotal := goodIn_r _ [42, 6, 43, 44, 45, 46, 4, 47, 48, 1, 2, 3, 5, 19, 20, 21, 22, 49, 50, 51, 52, 53, 54, 55, 56, 57, 58, 59, 60, 61, 62] (by decide +kernel) (by decide +kernel)
set_option maxRecDepth 20000 in
theorem gX4_withAnswer_X4_lastTotal : GoodIn wsX4_withAnswer (wsV RX4 154 RX4 yX4_lastTotal wsX4_lastTotal) := goodIn_app (goodIn_of _ (by decide +kernel)) ggX4_withAnswer_X4_lastTotal
theorem dX4_withAnswer_0 : decode cX4_withAnswer 0 = .ok (.aload_n 0, 1) := by decide +kernel
theorem dX4_withAnswer_1 : decode cX4_withAnswer 1 = .ok (.iload_n 1, 1) := by decide +kernel
theorem dX4_withAnswer_2 : decode cX4_withAnswer 2 = .ok (.iconst 4, 1) := by decide +kernel
theorem dX4_withAnswer_3 : decode cX4_withAnswer 3 = .ok (.invokevirtual 43, 3) := by decide +kernel
theorem dX4_withAnswer_6 : decode cX4_withAnswer 6 = .ok (.istore 4, 2) := by decide +kernel
theorem dX4_withAnswer_8 : decode cX4_withAnswer 8 = .ok (.aload_n 0, 1) := by decide +kernel
theorem dX4_withAnswer_9 : decode cX4_withAnswer 9 = .ok (.iload_n 1, 1) := by decide +kernel
theorem dX4_withAnswer_10 : decode cX4_withAnswer 10 = .ok (.iconst 4, 1) := by decide +kernel
theorem dX4_withAnswer_11 : decode cX4_withAnswer 11 = .ok (.iload_n 2, 1) := by decide +kernel
theorem dX4_withAnswer_12 : decode cX4_withAnswer 12 = .ok (.invokevirtual 68, 3) := by decide +kernel
theorem dX4_withAnswer_15 : decode cX4_withAnswer 15 = .ok (.aload_n 0, 1) := by decide +kernel
theorem dX4_withAnswer_16 : decode cX4_withAnswer 16 = .ok (.invokevirtual 93, 3) := by decide +kernel
theorem dX4_withAnswer_19 : decode cX4_withAnswer 19 = .ok (.istore 5, 2) := by decide +kernel
theorem dX4_withAnswer_21 : decode cX4_withAnswer 21 = .ok (.iload_n 3, 1) := by decide +kernel
theorem dX4_withAnswer_22 : decode cX4_withAnswer 22 = .ok (.ifCond .ne 12, 3) := by decide +kernel
theorem dX4_withAnswer_25 : decode cX4_withAnswer 25 = .ok (.aload_n 0, 1) := by decide +kernel
theorem dX4_withAnswer_26 : decode cX4_withAnswer 26 = .ok (.iload 5, 2) := by decide +kernel
theorem dX4_withAnswer_28 : decode cX4_withAnswer 28 = .ok (.invokevirtual 97, 3) := by decide +kernel
theorem dX4_withAnswer_31 : decode cX4_withAnswer 31 = .ok (.goto 19, 3) := by decide +kernel
theorem dX4_withAnswer_34 : decode cX4_withAnswer 34 = .ok (.iload_n 3, 1) := by decide +kernel
theorem dX4_withAnswer_35 : decode cX4_withAnswer 35 = .ok (.iconst 1, 1) := by decide +kernel
theorem dX4_withAnswer_36 : decode cX4_withAnswer 36 = .ok (.if_icmp .ne 8, 3) := by decide +kernel
theorem dX4_withAnswer_39 : decode cX4_withAnswer 39 = .ok (.iload 5, 2) := by decide +kernel
theorem dX4_withAnswer_41 : decode cX4_withAnswer 41 = .ok (.goto 9, 3) := by decide +kernel
theorem dX4_withAnswer_44 : decode cX4_withAnswer 44 = .ok (.aload_n 0, 1) := by decide +kernel
theorem dX4_withAnswer_45 : decode cX4_withAnswer 45 = .ok (.iload 5, 2) := by decide +kernel
theorem dX4_withAnswer_47 : decode cX4_withAnswer 47 = .ok (.invokevirtual 154, 3) := by decide +kernel
theorem dX4_withAnswer_50 : decode cX4_withAnswer 50 = .ok (.istore 6, 2) := by decide +kernel
theorem dX4_withAnswer_52 : decode cX4_withAnswer 52 = .ok (.aload_n 0, 1) := by decide +kernel
theorem dX4_withAnswer_53 : decode cX4_withAnswer 53 = .ok (.iload_n 1, 1) := by decide +kernel
theorem dX4_withAnswer_54 : decode cX4_withAnswer 54 = .ok (.iconst 4, 1) := by decide +kernel
theorem dX4_withAnswer_55 : decode cX4_withAnswer 55 = .ok (.iload 4, 2) := by decide +kernel
theorem dX4_withAnswer_57 : decode cX4_withAnswer 57 = .ok (.invokevirtual 68, 3) := by decide +kernel
theorem dX4_withAnswer_60 : decode cX4_withAnswer 60 = .ok (.iload 6, 2) := by decide +kernel
theorem dX4_withAnswer_62 : decode cX4_withAnswer 62 = .ok (.ireturn, 1) := by decide +kernel
set_option maxRecDepth 20000 in
theorem ggX4_ifAnswered_X4_isBox : GoodIn wsX4_ifAnswered wsX4_isBox := goodIn_r _ [6, 7, 68, 69, 70, 71, 72, 73, 74, 75, 76, 77, 78, 79, 80, 81] (by decide +kernel) (by decide +kernel)
set_option maxRecDepth 20000 in
theorem gX4_ifAnswered_X4_isBox : GoodIn wsX4_ifAnswered (wsV RX4 80 RX4 yX4_isBox wsX4_isBox) := goodIn_app (goodIn_of _ (by decide +kernel)) ggX4_ifAnswered_X4_isBox
set_option maxRecDepth 20000 in
theorem ggX4_ifAnswered_X4_canHave : GoodIn wsX4_ifAnswered wsX4_canHave := goodIn_r _ [11, 12, 13, 14, 5, 15, 7, 16, 17, 18, 19, 20, 21, 68, 69, 70, 71, 72, 73, 74, 75, 76, 77, 78, 79, 80, 81] (by decide +kernel) (by decide +kernel)
set_option maxRecDepth 20000 in
theorem gX4_ifAnswered_X4_canHave : GoodIn wsX4_ifAnswered (wsV RX4 90 RX4 yX4_canHave wsX4_canHave) := goodIn_app (goodIn_of _ (by decide +kernel)) ggX4_ifAnswered_X4_canHave
set_option maxRecDepth 20000 in
theorem ggX4_ifAnswered_X4_in : GoodIn wsX4_ifAnswered wsX4_in := goodIn_r _ [21] (by decide +kernel) (by decide +kernel)
set_option maxRecDepth 20000 in
theorem gX4_ifAnswered_X4_in : GoodIn wsX4_ifAnswered (va_wsS RX4 36 yX4_in wsX4_in) := goodIn_app (goodIn_of _ (by decide +kernel)) ggX4_ifAnswered_X4_in
set_option maxRecDepth 20000 in
theorem ggX4_ifAnswered_X4_withAnswer : GoodIn wsX4_ifAnswered wsX4_withAnswer := goodIn_r _ [25, 12, 13, 14, 5, 15, 7, 26, 27, 28, 29, 30, 31, 32, 33, 34, 35, 36, 37, 38, 39, 40, 41, 42, 43, 44, 45, 46, 47, 48, 49, 50, 51, 52, 53, 54, 55, 56, 57, 58, 59, 60, 61, 62, 63, 64, 65, 66, 67, 68, 69, 70, 71, 72, 73, 74, 75, 76, 77, 78, 79, 80, 81] (by decide +kernel) (by decide +kernel)
set_option maxRecDepth 20000 in
theorem gX4_ifAnswered_X4_withAnswer : GoodIn wsX4_ifAnswered (wsV RX4 157 RX4 yX4_withAnswer wsX4_withAnswer) := goodIn_app (goodIn_of _ (by decide +kernel)) ggX4_ifAnswered_X4_withAnswer
theorem dX4_ifAnswered_0 : decode cX4_ifAnswered 0 = .ok (.aload_n 0, 1) := by decide +kernel
theorem dX4_ifAnswered_1 : decode cX4_ifAnswered 1 = .ok (.aload_n 0, 1) := by decide +kernel
theorem dX4_ifAnswered_2 : decode cX4_ifAnswered 2 = .ok (.iload_n 1, 1) := by decide +kernel
theorem dX4_ifAnswered_3 : decode cX4_ifAnswered 3 = .ok (.invokevirtual 80, 3) := by decide +kernel
theorem dX4_ifAnswered_6 : decode cX4_ifAnswered 6 = .ok (.ifCond .ne 7, 3) := by decide +kernel
theorem dX4_ifAnswered_9 : decode cX4_ifAnswered 9 = .ok (.iconst 1, 1) := by decide +kernel
theorem dX4_ifAnswered_10 : decode cX4_ifAnswered 10 = .ok (.goto 26, 3) := by decide +kernel
theorem dX4_ifAnswered_13 : decode cX4_ifAnswered 13 = .ok (.aload_n 0, 1) := by decide +kernel
theorem dX4_ifAnswered_14 : decode cX4_ifAnswered 14 = .ok (.iload_n 1, 1) := by decide +kernel
theorem dX4_ifAnswered_15 : decode cX4_ifAnswered 15 = .ok (.iload_n 2, 1) := by decide +kernel
theorem dX4_ifAnswered_16 : decode cX4_ifAnswered 16 = .ok (.invokevirtual 90, 3) := by decide +kernel
theorem dX4_ifAnswered_19 : decode cX4_ifAnswered 19 = .ok (.ifCond .eq 16, 3) := by decide +kernel
theorem dX4_ifAnswered_22 : decode cX4_ifAnswered 22 = .ok (.iload_n 3, 1) := by decide +kernel
theorem dX4_ifAnswered_23 : decode cX4_ifAnswered 23 = .ok (.iconst 0, 1) := by decide +kernel
theorem dX4_ifAnswered_24 : decode cX4_ifAnswered 24 = .ok (.iconst 2, 1) := by decide +kernel
theorem dX4_ifAnswered_25 : decode cX4_ifAnswered 25 = .ok (.invokestatic 36, 3) := by decide +kernel
theorem dX4_ifAnswered_28 : decode cX4_ifAnswered 28 = .ok (.ifCond .eq 7, 3) := by decide +kernel
theorem dX4_ifAnswered_31 : decode cX4_ifAnswered 31 = .ok (.iconst 0, 1) := by decide +kernel
theorem dX4_ifAnswered_32 : decode cX4_ifAnswered 32 = .ok (.goto 4, 3) := by decide +kernel
theorem dX4_ifAnswered_35 : decode cX4_ifAnswered 35 = .ok (.iconst 2, 1) := by decide +kernel
theorem dX4_ifAnswered_36 : decode cX4_ifAnswered 36 = .ok (.putfield 32, 3) := by decide +kernel
theorem dX4_ifAnswered_39 : decode cX4_ifAnswered 39 = .ok (.aload_n 0, 1) := by decide +kernel
theorem dX4_ifAnswered_40 : decode cX4_ifAnswered 40 = .ok (.getfield 32, 3) := by decide +kernel
theorem dX4_ifAnswered_43 : decode cX4_ifAnswered 43 = .ok (.ifCond .le 7, 3) := by decide +kernel
theorem dX4_ifAnswered_46 : decode cX4_ifAnswered 46 = .ok (.iconst 0, 1) := by decide +kernel
theorem dX4_ifAnswered_47 : decode cX4_ifAnswered 47 = .ok (.goto 10, 3) := by decide +kernel
theorem dX4_ifAnswered_50 : decode cX4_ifAnswered 50 = .ok (.aload_n 0, 1) := by decide +kernel
theorem dX4_ifAnswered_51 : decode cX4_ifAnswered 51 = .ok (.iload_n 1, 1) := by decide +kernel
theorem dX4_ifAnswered_52 : decode cX4_ifAnswered 52 = .ok (.iload_n 2, 1) := by decide +kernel
theorem dX4_ifAnswered_53 : decode cX4_ifAnswered 53 = .ok (.iload_n 3, 1) := by decide +kernel
theorem dX4_ifAnswered_54 : decode cX4_ifAnswered 54 = .ok (.invokevirtual 157, 3) := by decide +kernel
theorem dX4_ifAnswered_57 : decode cX4_ifAnswered 57 = .ok (.ireturn, 1) := by decide +kernel
set_option maxRecDepth 20000 in
theorem ggX4_chosen_X4_of : GoodIn wsX4_chosen wsX4_of := goodIn_r _ [5, 6, 7, 8, 9, 10, 11, 12, 13, 14, 15, 16, 17, 18, 19, 20] (by decide +kernel) (by decide +kernel)
set_option maxRecDepth 20000 in
theorem gX4_chosen_X4_of : GoodIn wsX4_chosen (wsV RX4 43 RX4 yX4_of wsX4_of) := goodIn_app (goodIn_of _ (by decide +kernel)) ggX4_chosen_X4_of
theorem dX4_chosen_0 : decode cX4_chosen 0 = .ok (.aload_n 0, 1) := by decide +kernel
theorem dX4_chosen_1 : decode cX4_chosen 1 = .ok (.iload_n 1, 1) := by decide +kernel
theorem dX4_chosen_2 : decode cX4_chosen 2 = .ok (.iconst 0, 1) := by decide +kernel
theorem dX4_chosen_3 : decode cX4_chosen 3 = .ok (.invokevirtual 43, 3) := by decide +kernel
theorem dX4_chosen_6 : decode cX4_chosen 6 = .ok (.iconst 1, 1) := by decide +kernel
theorem dX4_chosen_7 : decode cX4_chosen 7 = .ok (.if_icmp .ne 7, 3) := by decide +kernel
theorem dX4_chosen_10 : decode cX4_chosen 10 = .ok (.iload_n 2, 1) := by decide +kernel
theorem dX4_chosen_11 : decode cX4_chosen 11 = .ok (.goto 23, 3) := by decide +kernel
theorem dX4_chosen_14 : decode cX4_chosen 14 = .ok (.iload_n 2, 1) := by decide +kernel
theorem dX4_chosen_15 : decode cX4_chosen 15 = .ok (.iconst 1, 1) := by decide +kernel
theorem dX4_chosen_16 : decode cX4_chosen 16 = .ok (.if_icmp .eq 12, 3) := by decide +kernel
theorem dX4_chosen_19 : decode cX4_chosen 19 = .ok (.aload_n 0, 1) := by decide +kernel
theorem dX4_chosen_20 : decode cX4_chosen 20 = .ok (.iload_n 1, 1) := by decide +kernel
theorem dX4_chosen_21 : decode cX4_chosen 21 = .ok (.iconst 3, 1) := by decide +kernel
theorem dX4_chosen_22 : decode cX4_chosen 22 = .ok (.invokevirtual 43, 3) := by decide +kernel
theorem dX4_chosen_25 : decode cX4_chosen 25 = .ok (.ifCond .ne 8, 3) := by decide +kernel
theorem dX4_chosen_28 : decode cX4_chosen 28 = .ok (.bipush 99, 2) := by decide +kernel
theorem dX4_chosen_30 : decode cX4_chosen 30 = .ok (.goto 4, 3) := by decide +kernel
theorem dX4_chosen_33 : decode cX4_chosen 33 = .ok (.iconst 0, 1) := by decide +kernel
theorem dX4_chosen_34 : decode cX4_chosen 34 = .ok (.ireturn, 1) := by decide +kernel
set_option maxRecDepth 20000 in
theorem ggX4_fewest_X4_of : GoodIn wsX4_fewest wsX4_of := goodIn_r _ [8, 1, 37, 38, 39, 40, 41, 42, 43, 44, 45, 46, 47, 48, 49, 50] (by decide +kernel) (by decide +kernel)
