theorem wsL_law_x0 : ∀ w ∈ (vx_atS RX3 180 "java/lang/IndexOutOfBoundsException" ["java/lang/RuntimeException", "java/lang/Exception"]).filter goodWord, w ∈ lw_tbl := by decide +kernel
theorem wsL_law_x1 : ∀ w ∈ (vx_atS RX3 192 "java/lang/IllegalArgumentException" ["java/lang/RuntimeException", "java/lang/Exception"]).filter goodWord, w ∈ lw_tbl := by decide +kernel
theorem wsL_law_x2 : ∀ w ∈ (vx_atS RX3 197 "java/lang/IllegalStateException" ["java/lang/RuntimeException", "java/lang/Exception"]).filter goodWord, w ∈ lw_tbl := by decide +kernel
theorem wsL_law_in : ∀ w ∈ wsL_law, w ∈ lw_tbl := fun w h => (List.mem_append.mp h).elim (fun h => (List.mem_append.mp h).elim (fun h => (List.mem_append.mp h).elim (fun h => wsL_law_in0 w h) (fun h => wsL_law_x0 w h)) (fun h => wsL_law_x1 w h)) (fun h => wsL_law_x2 w h)
theorem inlX0 : ∀ w ∈ wsX00, w ∈ wsL_law := fun _ h => List.mem_append_left _ (List.mem_append_left _ (List.mem_append_left _ (List.mem_append_left _ (List.mem_append_left _ (List.mem_append_left _ (List.mem_append_right _ h))))))
theorem inX0 : ∀ w ∈ wsX00, w ∈ lw_tbl := fun w h => wsL_law_in w (inlX0 w h)
theorem inlX1 : ∀ w ∈ wsX10, w ∈ wsL_law := fun _ h => List.mem_append_left _ (List.mem_append_left _ (List.mem_append_left _ (List.mem_append_left _ (List.mem_append_left _ (List.mem_append_right _ h)))))
theorem inX1 : ∀ w ∈ wsX10, w ∈ lw_tbl := fun w h => wsL_law_in w (inlX1 w h)
theorem inlX2 : ∀ w ∈ wsX20, w ∈ wsL_law := fun _ h => List.mem_append_left _ (List.mem_append_left _ (List.mem_append_left _ (List.mem_append_left _ (List.mem_append_right _ h))))
theorem inX2 : ∀ w ∈ wsX20, w ∈ lw_tbl := fun w h => wsL_law_in w (inlX2 w h)
theorem inlX3 : ∀ w ∈ wsX30, w ∈ wsL_law := fun _ h => List.mem_append_left _ (List.mem_append_left _ (List.mem_append_left _ (List.mem_append_left _ (List.mem_append_left _ (List.mem_append_left _ (List.mem_append_left _ (List.mem_append_right _ h)))))))
theorem inX3 : ∀ w ∈ wsX30, w ∈ lw_tbl := fun w h => wsL_law_in w (inlX3 w h)
theorem inX4 : ∀ w ∈ wsX40, w ∈ lw_tbl := by decide +kernel
theorem inJ6 : ∀ w ∈ wsJ60, w ∈ lw_tbl := by decide +kernel
theorem inJ9 : ∀ w ∈ wsJ90, w ∈ lw_tbl := by decide +kernel
theorem inJ0 : ∀ w ∈ wsJ00, w ∈ lw_tbl := by decide +kernel
theorem dX0_init_0 : decode cX0_init 0 = .ok (.aload_n 0, 1) := by decide +kernel
theorem dX0_init_1 : decode cX0_init 1 = .ok (.invokespecial 3, 3) := by decide +kernel
theorem dX0_init_4 : decode cX0_init 4 = .ok (.aload_n 0, 1) := by decide +kernel
theorem dX0_init_5 : decode cX0_init 5 = .ok (.bipush 16, 2) := by decide +kernel
theorem dX0_init_7 : decode cX0_init 7 = .ok (.newarray .int, 2) := by decide +kernel
theorem dX0_init_9 : decode cX0_init 9 = .ok (.putfield 9, 3) := by decide +kernel
theorem dX0_init_12 : decode cX0_init 12 = .ok (.aload_n 0, 1) := by decide +kernel
theorem dX0_init_13 : decode cX0_init 13 = .ok (.bipush 16, 2) := by decide +kernel
theorem dX0_init_15 : decode cX0_init 15 = .ok (.newarray .int, 2) := by decide +kernel
theorem dX0_init_17 : decode cX0_init 17 = .ok (.putfield 15, 3) := by decide +kernel
theorem dX0_init_20 : decode cX0_init 20 = .ok (.aload_n 0, 1) := by decide +kernel
theorem dX0_init_21 : decode cX0_init 21 = .ok (.bipush 16, 2) := by decide +kernel
theorem dX0_init_23 : decode cX0_init 23 = .ok (.newarray .int, 2) := by decide +kernel
theorem dX0_init_25 : decode cX0_init 25 = .ok (.putfield 18, 3) := by decide +kernel
theorem dX0_init_28 : decode cX0_init 28 = .ok (.aload_n 0, 1) := by decide +kernel
theorem dX0_init_29 : decode cX0_init 29 = .ok (.bipush 16, 2) := by decide +kernel
theorem dX0_init_31 : decode cX0_init 31 = .ok (.newarray .int, 2) := by decide +kernel
theorem dX0_init_33 : decode cX0_init 33 = .ok (.putfield 21, 3) := by decide +kernel
theorem dX0_init_36 : decode cX0_init 36 = .ok (.aload_n 0, 1) := by decide +kernel
theorem dX0_init_37 : decode cX0_init 37 = .ok (.bipush 16, 2) := by decide +kernel
theorem dX0_init_39 : decode cX0_init 39 = .ok (.newarray .int, 2) := by decide +kernel
theorem dX0_init_41 : decode cX0_init 41 = .ok (.putfield 24, 3) := by decide +kernel
theorem dX0_init_44 : decode cX0_init 44 = .ok (.aload_n 0, 1) := by decide +kernel
theorem dX0_init_45 : decode cX0_init 45 = .ok (.bipush 16, 2) := by decide +kernel
theorem dX0_init_47 : decode cX0_init 47 = .ok (.newarray .int, 2) := by decide +kernel
theorem dX0_init_49 : decode cX0_init 49 = .ok (.putfield 27, 3) := by decide +kernel
theorem dX0_init_52 : decode cX0_init 52 = .ok (.return_, 1) := by decide +kernel
theorem dX0_size_0 : decode cX0_size 0 = .ok (.aload_n 0, 1) := by decide +kernel
theorem dX0_size_1 : decode cX0_size 1 = .ok (.getfield 30, 3) := by decide +kernel
theorem dX0_size_4 : decode cX0_size 4 = .ok (.ireturn, 1) := by decide +kernel
theorem dX0_has_0 : decode cX0_has 0 = .ok (.iload_n 1, 1) := by decide +kernel
theorem dX0_has_1 : decode cX0_has 1 = .ok (.ifCond .lt 15, 3) := by decide +kernel
theorem dX0_has_4 : decode cX0_has 4 = .ok (.iload_n 1, 1) := by decide +kernel
theorem dX0_has_5 : decode cX0_has 5 = .ok (.aload_n 0, 1) := by decide +kernel
theorem dX0_has_6 : decode cX0_has 6 = .ok (.getfield 30, 3) := by decide +kernel
theorem dX0_has_9 : decode cX0_has 9 = .ok (.if_icmp .ge 7, 3) := by decide +kernel
theorem dX0_has_12 : decode cX0_has 12 = .ok (.iconst 1, 1) := by decide +kernel
theorem dX0_has_13 : decode cX0_has 13 = .ok (.goto 4, 3) := by decide +kernel
theorem dX0_has_16 : decode cX0_has 16 = .ok (.iconst 0, 1) := by decide +kernel
theorem dX0_has_17 : decode cX0_has 17 = .ok (.ireturn, 1) := by decide +kernel
set_option maxRecDepth 20000 in
theorem ggX0_kindOf_X3_at : GoodIn wsX0_kindOf wsX3_at := goodIn_r _ [4] (by decide +kernel) (by decide +kernel)
set_option maxRecDepth 20000 in
theorem gX0_kindOf_X3_at_n34 : GoodIn wsX0_kindOf (wsX3_at) := ggX0_kindOf_X3_at
theorem dX0_kindOf_0 : decode cX0_kindOf 0 = .ok (.aload_n 0, 1) := by decide +kernel
theorem dX0_kindOf_1 : decode cX0_kindOf 1 = .ok (.getfield 9, 3) := by decide +kernel
theorem dX0_kindOf_4 : decode cX0_kindOf 4 = .ok (.iload_n 1, 1) := by decide +kernel
theorem dX0_kindOf_5 : decode cX0_kindOf 5 = .ok (.invokestatic 34, 3) := by decide +kernel
theorem dX0_kindOf_8 : decode cX0_kindOf 8 = .ok (.ireturn, 1) := by decide +kernel
set_option maxRecDepth 20000 in
theorem ggX0_partOf_X3_at : GoodIn wsX0_partOf wsX3_at := goodIn_r _ [4] (by decide +kernel) (by decide +kernel)
set_option maxRecDepth 20000 in
theorem gX0_partOf_X3_at_n34 : GoodIn wsX0_partOf (wsX3_at) := ggX0_partOf_X3_at
theorem dX0_partOf_0 : decode cX0_partOf 0 = .ok (.aload_n 0, 1) := by decide +kernel
theorem dX0_partOf_1 : decode cX0_partOf 1 = .ok (.getfield 15, 3) := by decide +kernel
theorem dX0_partOf_4 : decode cX0_partOf 4 = .ok (.iload_n 1, 1) := by decide +kernel
theorem dX0_partOf_5 : decode cX0_partOf 5 = .ok (.invokestatic 34, 3) := by decide +kernel
theorem dX0_partOf_8 : decode cX0_partOf 8 = .ok (.ireturn, 1) := by decide +kernel
set_option maxRecDepth 20000 in
theorem ggX0_settingOf_X3_at : GoodIn wsX0_settingOf wsX3_at := goodIn_r _ [4] (by decide +kernel) (by decide +kernel)
set_option maxRecDepth 20000 in
theorem gX0_settingOf_X3_at_n34 : GoodIn wsX0_settingOf (wsX3_at) := ggX0_settingOf_X3_at
theorem dX0_settingOf_0 : decode cX0_settingOf 0 = .ok (.aload_n 0, 1) := by decide +kernel
theorem dX0_settingOf_1 : decode cX0_settingOf 1 = .ok (.getfield 18, 3) := by decide +kernel
theorem dX0_settingOf_4 : decode cX0_settingOf 4 = .ok (.iload_n 1, 1) := by decide +kernel
theorem dX0_settingOf_5 : decode cX0_settingOf 5 = .ok (.invokestatic 34, 3) := by decide +kernel
theorem dX0_settingOf_8 : decode cX0_settingOf 8 = .ok (.ireturn, 1) := by decide +kernel
set_option maxRecDepth 20000 in
theorem ggX0_limitOf_X3_at : GoodIn wsX0_limitOf wsX3_at := goodIn_r _ [4] (by decide +kernel) (by decide +kernel)
set_option maxRecDepth 20000 in
theorem gX0_limitOf_X3_at_n34 : GoodIn wsX0_limitOf (wsX3_at) := ggX0_limitOf_X3_at
theorem dX0_limitOf_0 : decode cX0_limitOf 0 = .ok (.aload_n 0, 1) := by decide +kernel
theorem dX0_limitOf_1 : decode cX0_limitOf 1 = .ok (.getfield 21, 3) := by decide +kernel
theorem dX0_limitOf_4 : decode cX0_limitOf 4 = .ok (.iload_n 1, 1) := by decide +kernel
theorem dX0_limitOf_5 : decode cX0_limitOf 5 = .ok (.invokestatic 34, 3) := by decide +kernel
theorem dX0_limitOf_8 : decode cX0_limitOf 8 = .ok (.ireturn, 1) := by decide +kernel
set_option maxRecDepth 20000 in
theorem ggX0_answerOf_X3_at : GoodIn wsX0_answerOf wsX3_at := goodIn_r _ [4] (by decide +kernel) (by decide +kernel)
set_option maxRecDepth 20000 in
theorem gX0_answerOf_X3_at_n34 : GoodIn wsX0_answerOf (wsX3_at) := ggX0_answerOf_X3_at
theorem dX0_answerOf_0 : decode cX0_answerOf 0 = .ok (.aload_n 0, 1) := by decide +kernel
theorem dX0_answerOf_1 : decode cX0_answerOf 1 = .ok (.getfield 24, 3) := by decide +kernel
theorem dX0_answerOf_4 : decode cX0_answerOf 4 = .ok (.iload_n 1, 1) := by decide +kernel
theorem dX0_answerOf_5 : decode cX0_answerOf 5 = .ok (.invokestatic 34, 3) := by decide +kernel
theorem dX0_answerOf_8 : decode cX0_answerOf 8 = .ok (.ireturn, 1) := by decide +kernel
set_option maxRecDepth 20000 in
theorem ggX0_add_X3_put : GoodIn wsX0_add wsX3_put := goodIn_r _ [9] (by decide +kernel) (by decide +kernel)
set_option maxRecDepth 20000 in
theorem gX0_add_X3_put_n38 : GoodIn wsX0_add (wsX3_put) := ggX0_add_X3_put
theorem dX0_add_0 : decode cX0_add 0 = .ok (.aload_n 0, 1) := by decide +kernel
theorem dX0_add_1 : decode cX0_add 1 = .ok (.getfield 9, 3) := by decide +kernel
theorem dX0_add_4 : decode cX0_add 4 = .ok (.aload_n 0, 1) := by decide +kernel
theorem dX0_add_5 : decode cX0_add 5 = .ok (.getfield 30, 3) := by decide +kernel
theorem dX0_add_8 : decode cX0_add 8 = .ok (.iload_n 1, 1) := by decide +kernel
theorem dX0_add_9 : decode cX0_add 9 = .ok (.invokestatic 38, 3) := by decide +kernel
theorem dX0_add_12 : decode cX0_add 12 = .ok (.aload_n 0, 1) := by decide +kernel
theorem dX0_add_13 : decode cX0_add 13 = .ok (.getfield 15, 3) := by decide +kernel
theorem dX0_add_16 : decode cX0_add 16 = .ok (.aload_n 0, 1) := by decide +kernel
theorem dX0_add_17 : decode cX0_add 17 = .ok (.getfield 30, 3) := by decide +kernel
theorem dX0_add_20 : decode cX0_add 20 = .ok (.iload_n 2, 1) := by decide +kernel
theorem dX0_add_21 : decode cX0_add 21 = .ok (.invokestatic 38, 3) := by decide +kernel
theorem dX0_add_24 : decode cX0_add 24 = .ok (.aload_n 0, 1) := by decide +kernel
theorem dX0_add_25 : decode cX0_add 25 = .ok (.getfield 18, 3) := by decide +kernel
theorem dX0_add_28 : decode cX0_add 28 = .ok (.aload_n 0, 1) := by decide +kernel
theorem dX0_add_29 : decode cX0_add 29 = .ok (.getfield 30, 3) := by decide +kernel
theorem dX0_add_32 : decode cX0_add 32 = .ok (.iload_n 3, 1) := by decide +kernel
theorem dX0_add_33 : decode cX0_add 33 = .ok (.invokestatic 38, 3) := by decide +kernel
theorem dX0_add_36 : decode cX0_add 36 = .ok (.aload_n 0, 1) := by decide +kernel
theorem dX0_add_37 : decode cX0_add 37 = .ok (.getfield 21, 3) := by decide +kernel
theorem dX0_add_40 : decode cX0_add 40 = .ok (.aload_n 0, 1) := by decide +kernel
theorem dX0_add_41 : decode cX0_add 41 = .ok (.getfield 30, 3) := by decide +kernel
theorem dX0_add_44 : decode cX0_add 44 = .ok (.iload 4, 2) := by decide +kernel
theorem dX0_add_46 : decode cX0_add 46 = .ok (.invokestatic 38, 3) := by decide +kernel
theorem dX0_add_49 : decode cX0_add 49 = .ok (.aload_n 0, 1) := by decide +kernel
theorem dX0_add_50 : decode cX0_add 50 = .ok (.getfield 24, 3) := by decide +kernel
theorem dX0_add_53 : decode cX0_add 53 = .ok (.aload_n 0, 1) := by decide +kernel
theorem dX0_add_54 : decode cX0_add 54 = .ok (.getfield 30, 3) := by decide +kernel
theorem dX0_add_57 : decode cX0_add 57 = .ok (.iconst (-1), 1) := by decide +kernel
theorem dX0_add_58 : decode cX0_add 58 = .ok (.invokestatic 38, 3) := by decide +kernel
theorem dX0_add_61 : decode cX0_add 61 = .ok (.aload_n 0, 1) := by decide +kernel
theorem dX0_add_62 : decode cX0_add 62 = .ok (.dup, 1) := by decide +kernel
theorem dX0_add_63 : decode cX0_add 63 = .ok (.getfield 30, 3) := by decide +kernel
theorem dX0_add_66 : decode cX0_add 66 = .ok (.iconst 1, 1) := by decide +kernel
theorem dX0_add_67 : decode cX0_add 67 = .ok (.iadd, 1) := by decide +kernel
theorem dX0_add_68 : decode cX0_add 68 = .ok (.putfield 30, 3) := by decide +kernel
theorem dX0_add_71 : decode cX0_add 71 = .ok (.return_, 1) := by decide +kernel
theorem dX0_removeLast_0 : decode cX0_removeLast 0 = .ok (.aload_n 0, 1) := by decide +kernel
theorem dX0_removeLast_1 : decode cX0_removeLast 1 = .ok (.dup, 1) := by decide +kernel
theorem dX0_removeLast_2 : decode cX0_removeLast 2 = .ok (.getfield 30, 3) := by decide +kernel
theorem dX0_removeLast_5 : decode cX0_removeLast 5 = .ok (.iconst 1, 1) := by decide +kernel
theorem dX0_removeLast_6 : decode cX0_removeLast 6 = .ok (.isub, 1) := by decide +kernel
theorem dX0_removeLast_7 : decode cX0_removeLast 7 = .ok (.putfield 30, 3) := by decide +kernel
theorem dX0_removeLast_10 : decode cX0_removeLast 10 = .ok (.return_, 1) := by decide +kernel
set_option maxRecDepth 20000 in
theorem ggX0_give_X3_put : GoodIn wsX0_give wsX3_put := goodIn_r _ [4] (by decide +kernel) (by decide +kernel)
set_option maxRecDepth 20000 in
theorem gX0_give_X3_put_n38 : GoodIn wsX0_give (wsX3_put) := ggX0_give_X3_put
theorem dX0_give_0 : decode cX0_give 0 = .ok (.aload_n 0, 1) := by decide +kernel
theorem dX0_give_1 : decode cX0_give 1 = .ok (.getfield 24, 3) := by decide +kernel
theorem dX0_give_4 : decode cX0_give 4 = .ok (.iload_n 1, 1) := by decide +kernel
theorem dX0_give_5 : decode cX0_give 5 = .ok (.iload_n 2, 1) := by decide +kernel
theorem dX0_give_6 : decode cX0_give 6 = .ok (.invokestatic 38, 3) := by decide +kernel
theorem dX0_give_9 : decode cX0_give 9 = .ok (.return_, 1) := by decide +kernel
set_option maxRecDepth 20000 in
theorem ggX0_copyFrom_X3_at : GoodIn wsX0_copyFrom wsX3_at := goodIn_r _ [9] (by decide +kernel) (by decide +kernel)
set_option maxRecDepth 20000 in
theorem gX0_copyFrom_X3_at_n34 : GoodIn wsX0_copyFrom (wsX3_at) := ggX0_copyFrom_X3_at
set_option maxRecDepth 20000 in
theorem ggX0_copyFrom_X3_put : GoodIn wsX0_copyFrom wsX3_put := goodIn_r _ [11] (by decide +kernel) (by decide +kernel)
set_option maxRecDepth 20000 in
theorem gX0_copyFrom_X3_put_n38 : GoodIn wsX0_copyFrom (wsX3_put) := ggX0_copyFrom_X3_put
theorem dX0_copyFrom_0 : decode cX0_copyFrom 0 = .ok (.iconst 0, 1) := by decide +kernel
theorem dX0_copyFrom_1 : decode cX0_copyFrom 1 = .ok (.istore_n 2, 1) := by decide +kernel
theorem dX0_copyFrom_2 : decode cX0_copyFrom 2 = .ok (.iload_n 2, 1) := by decide +kernel
theorem dX0_copyFrom_3 : decode cX0_copyFrom 3 = .ok (.aload_n 1, 1) := by decide +kernel
theorem dX0_copyFrom_4 : decode cX0_copyFrom 4 = .ok (.getfield 30, 3) := by decide +kernel
theorem dX0_copyFrom_7 : decode cX0_copyFrom 7 = .ok (.if_icmp .ge 89, 3) := by decide +kernel
theorem dX0_copyFrom_10 : decode cX0_copyFrom 10 = .ok (.aload_n 0, 1) := by decide +kernel
theorem dX0_copyFrom_11 : decode cX0_copyFrom 11 = .ok (.getfield 9, 3) := by decide +kernel
theorem dX0_copyFrom_14 : decode cX0_copyFrom 14 = .ok (.iload_n 2, 1) := by decide +kernel
theorem dX0_copyFrom_15 : decode cX0_copyFrom 15 = .ok (.aload_n 1, 1) := by decide +kernel
theorem dX0_copyFrom_16 : decode cX0_copyFrom 16 = .ok (.getfield 9, 3) := by decide +kernel
theorem dX0_copyFrom_19 : decode cX0_copyFrom 19 = .ok (.iload_n 2, 1) := by decide +kernel
theorem dX0_copyFrom_20 : decode cX0_copyFrom 20 = .ok (.invokestatic 34, 3) := by decide +kernel
theorem dX0_copyFrom_23 : decode cX0_copyFrom 23 = .ok (.invokestatic 38, 3) := by decide +kernel
theorem dX0_copyFrom_26 : decode cX0_copyFrom 26 = .ok (.aload_n 0, 1) := by decide +kernel
theorem dX0_copyFrom_27 : decode cX0_copyFrom 27 = .ok (.getfield 15, 3) := by decide +kernel
theorem dX0_copyFrom_30 : decode cX0_copyFrom 30 = .ok (.iload_n 2, 1) := by decide +kernel
theorem dX0_copyFrom_31 : decode cX0_copyFrom 31 = .ok (.aload_n 1, 1) := by decide +kernel
theorem dX0_copyFrom_32 : decode cX0_copyFrom 32 = .ok (.getfield 15, 3) := by decide +kernel
theorem dX0_copyFrom_35 : decode cX0_copyFrom 35 = .ok (.iload_n 2, 1) := by decide +kernel
theorem dX0_copyFrom_36 : decode cX0_copyFrom 36 = .ok (.invokestatic 34, 3) := by decide +kernel
theorem dX0_copyFrom_39 : decode cX0_copyFrom 39 = .ok (.invokestatic 38, 3) := by decide +kernel
theorem dX0_copyFrom_42 : decode cX0_copyFrom 42 = .ok (.aload_n 0, 1) := by decide +kernel
theorem dX0_copyFrom_43 : decode cX0_copyFrom 43 = .ok (.getfield 18, 3) := by decide +kernel
theorem dX0_copyFrom_46 : decode cX0_copyFrom 46 = .ok (.iload_n 2, 1) := by decide +kernel
theorem dX0_copyFrom_47 : decode cX0_copyFrom 47 = .ok (.aload_n 1, 1) := by decide +kernel
theorem dX0_copyFrom_48 : decode cX0_copyFrom 48 = .ok (.getfield 18, 3) := by decide +kernel
theorem dX0_copyFrom_51 : decode cX0_copyFrom 51 = .ok (.iload_n 2, 1) := by decide +kernel
theorem dX0_copyFrom_52 : decode cX0_copyFrom 52 = .ok (.invokestatic 34, 3) := by decide +kernel
theorem dX0_copyFrom_55 : decode cX0_copyFrom 55 = .ok (.invokestatic 38, 3) := by decide +kernel
theorem dX0_copyFrom_58 : decode cX0_copyFrom 58 = .ok (.aload_n 0, 1) := by decide +kernel
theorem dX0_copyFrom_59 : decode cX0_copyFrom 59 = .ok (.getfield 21, 3) := by decide +kernel
theorem dX0_copyFrom_62 : decode cX0_copyFrom 62 = .ok (.iload_n 2, 1) := by decide +kernel
theorem dX0_copyFrom_63 : decode cX0_copyFrom 63 = .ok (.aload_n 1, 1) := by decide +kernel
theorem dX0_copyFrom_64 : decode cX0_copyFrom 64 = .ok (.getfield 21, 3) := by decide +kernel
theorem dX0_copyFrom_67 : decode cX0_copyFrom 67 = .ok (.iload_n 2, 1) := by decide +kernel
theorem dX0_copyFrom_68 : decode cX0_copyFrom 68 = .ok (.invokestatic 34, 3) := by decide +kernel
theorem dX0_copyFrom_71 : decode cX0_copyFrom 71 = .ok (.invokestatic 38, 3) := by decide +kernel
theorem dX0_copyFrom_74 : decode cX0_copyFrom 74 = .ok (.aload_n 0, 1) := by decide +kernel
theorem dX0_copyFrom_75 : decode cX0_copyFrom 75 = .ok (.getfield 24, 3) := by decide +kernel
theorem dX0_copyFrom_78 : decode cX0_copyFrom 78 = .ok (.iload_n 2, 1) := by decide +kernel
theorem dX0_copyFrom_79 : decode cX0_copyFrom 79 = .ok (.aload_n 1, 1) := by decide +kernel
theorem dX0_copyFrom_80 : decode cX0_copyFrom 80 = .ok (.getfield 24, 3) := by decide +kernel
theorem dX0_copyFrom_83 : decode cX0_copyFrom 83 = .ok (.iload_n 2, 1) := by decide +kernel
theorem dX0_copyFrom_84 : decode cX0_copyFrom 84 = .ok (.invokestatic 34, 3) := by decide +kernel
theorem dX0_copyFrom_87 : decode cX0_copyFrom 87 = .ok (.invokestatic 38, 3) := by decide +kernel
theorem dX0_copyFrom_90 : decode cX0_copyFrom 90 = .ok (.iinc 2 1, 3) := by decide +kernel
theorem dX0_copyFrom_93 : decode cX0_copyFrom 93 = .ok (.goto (-91), 3) := by decide +kernel
theorem dX0_copyFrom_96 : decode cX0_copyFrom 96 = .ok (.aload_n 0, 1) := by decide +kernel
theorem dX0_copyFrom_97 : decode cX0_copyFrom 97 = .ok (.aload_n 1, 1) := by decide +kernel
theorem dX0_copyFrom_98 : decode cX0_copyFrom 98 = .ok (.getfield 30, 3) := by decide +kernel
theorem dX0_copyFrom_101 : decode cX0_copyFrom 101 = .ok (.putfield 30, 3) := by decide +kernel
theorem dX0_copyFrom_104 : decode cX0_copyFrom 104 = .ok (.return_, 1) := by decide +kernel
set_option maxRecDepth 20000 in
theorem ggX0_isFor_X3_at : GoodIn wsX0_isFor wsX3_at := goodIn_r _ [5] (by decide +kernel) (by decide +kernel)
set_option maxRecDepth 20000 in
theorem gX0_isFor_X3_at_n34 : GoodIn wsX0_isFor (wsX3_at) := ggX0_isFor_X3_at
theorem dX0_isFor_0 : decode cX0_isFor 0 = .ok (.aload_n 0, 1) := by decide +kernel
theorem dX0_isFor_1 : decode cX0_isFor 1 = .ok (.getfield 9, 3) := by decide +kernel
theorem dX0_isFor_4 : decode cX0_isFor 4 = .ok (.iload_n 1, 1) := by decide +kernel
theorem dX0_isFor_5 : decode cX0_isFor 5 = .ok (.invokestatic 34, 3) := by decide +kernel
theorem dX0_isFor_8 : decode cX0_isFor 8 = .ok (.iload_n 2, 1) := by decide +kernel
theorem dX0_isFor_9 : decode cX0_isFor 9 = .ok (.if_icmp .ne 19, 3) := by decide +kernel
theorem dX0_isFor_12 : decode cX0_isFor 12 = .ok (.aload_n 0, 1) := by decide +kernel
theorem dX0_isFor_13 : decode cX0_isFor 13 = .ok (.getfield 18, 3) := by decide +kernel
theorem dX0_isFor_16 : decode cX0_isFor 16 = .ok (.iload_n 1, 1) := by decide +kernel
theorem dX0_isFor_17 : decode cX0_isFor 17 = .ok (.invokestatic 34, 3) := by decide +kernel
theorem dX0_isFor_20 : decode cX0_isFor 20 = .ok (.iload_n 3, 1) := by decide +kernel
theorem dX0_isFor_21 : decode cX0_isFor 21 = .ok (.if_icmp .ne 7, 3) := by decide +kernel
theorem dX0_isFor_24 : decode cX0_isFor 24 = .ok (.iconst 1, 1) := by decide +kernel
theorem dX0_isFor_25 : decode cX0_isFor 25 = .ok (.goto 4, 3) := by decide +kernel
theorem dX0_isFor_28 : decode cX0_isFor 28 = .ok (.iconst 0, 1) := by decide +kernel
theorem dX0_isFor_29 : decode cX0_isFor 29 = .ok (.ireturn, 1) := by decide +kernel
set_option maxRecDepth 20000 in
theorem ggX0_isEmpty_X3_at : GoodIn wsX0_isEmpty wsX3_at := goodIn_r _ [5] (by decide +kernel) (by decide +kernel)
set_option maxRecDepth 20000 in
theorem gX0_isEmpty_X3_at_n34 : GoodIn wsX0_isEmpty (wsX3_at) := ggX0_isEmpty_X3_at
theorem dX0_isEmpty_0 : decode cX0_isEmpty 0 = .ok (.aload_n 0, 1) := by decide +kernel
theorem dX0_isEmpty_1 : decode cX0_isEmpty 1 = .ok (.getfield 9, 3) := by decide +kernel
theorem dX0_isEmpty_4 : decode cX0_isEmpty 4 = .ok (.iload_n 1, 1) := by decide +kernel
theorem dX0_isEmpty_5 : decode cX0_isEmpty 5 = .ok (.invokestatic 34, 3) := by decide +kernel
theorem dX0_isEmpty_8 : decode cX0_isEmpty 8 = .ok (.iconst 3, 1) := by decide +kernel
theorem dX0_isEmpty_9 : decode cX0_isEmpty 9 = .ok (.if_icmp .eq 19, 3) := by decide +kernel
theorem dX0_isEmpty_12 : decode cX0_isEmpty 12 = .ok (.aload_n 0, 1) := by decide +kernel
theorem dX0_isEmpty_13 : decode cX0_isEmpty 13 = .ok (.getfield 24, 3) := by decide +kernel
theorem dX0_isEmpty_16 : decode cX0_isEmpty 16 = .ok (.iload_n 1, 1) := by decide +kernel
theorem dX0_isEmpty_17 : decode cX0_isEmpty 17 = .ok (.invokestatic 34, 3) := by decide +kernel
theorem dX0_isEmpty_20 : decode cX0_isEmpty 20 = .ok (.iconst (-1), 1) := by decide +kernel
theorem dX0_isEmpty_21 : decode cX0_isEmpty 21 = .ok (.if_icmp .ne 7, 3) := by decide +kernel
theorem dX0_isEmpty_24 : decode cX0_isEmpty 24 = .ok (.iconst 1, 1) := by decide +kernel
theorem dX0_isEmpty_25 : decode cX0_isEmpty 25 = .ok (.goto 4, 3) := by decide +kernel
theorem dX0_isEmpty_28 : decode cX0_isEmpty 28 = .ok (.iconst 0, 1) := by decide +kernel
theorem dX0_isEmpty_29 : decode cX0_isEmpty 29 = .ok (.ireturn, 1) := by decide +kernel
set_option maxRecDepth 20000 in
theorem ggX0_fits_X0_mostAnswer : GoodIn wsX0_fits wsX0_mostAnswer := goodIn_r _ [5, 6, 7, 8, 9, 10, 11, 12, 4, 13, 16, 17, 18, 19, 20, 21, 22] (by decide +kernel) (by decide +kernel)
set_option maxRecDepth 20000 in
theorem gX0_fits_X0_mostAnswer : GoodIn wsX0_fits (wsV RX0 42 RX0 yX0_mostAnswer wsX0_mostAnswer) := goodIn_app (goodIn_of _ (by decide +kernel)) ggX0_fits_X0_mostAnswer
set_option maxRecDepth 20000 in
theorem ggX0_fits_X3_isWithin : GoodIn wsX0_fits wsX3_isWithin := goodIn_r _ [15] (by decide +kernel) (by decide +kernel)
set_option maxRecDepth 20000 in
theorem gX0_fits_X3_isWithin_n46 : GoodIn wsX0_fits (wsX3_isWithin) := ggX0_fits_X3_isWithin
theorem dX0_fits_0 : decode cX0_fits 0 = .ok (.iload_n 2, 1) := by decide +kernel
theorem dX0_fits_1 : decode cX0_fits 1 = .ok (.iconst (-1), 1) := by decide +kernel
theorem dX0_fits_2 : decode cX0_fits 2 = .ok (.if_icmp .eq 16, 3) := by decide +kernel
theorem dX0_fits_5 : decode cX0_fits 5 = .ok (.iload_n 2, 1) := by decide +kernel
theorem dX0_fits_6 : decode cX0_fits 6 = .ok (.iconst 0, 1) := by decide +kernel
theorem dX0_fits_7 : decode cX0_fits 7 = .ok (.aload_n 0, 1) := by decide +kernel
theorem dX0_fits_8 : decode cX0_fits 8 = .ok (.iload_n 1, 1) := by decide +kernel
theorem dX0_fits_9 : decode cX0_fits 9 = .ok (.invokevirtual 42, 3) := by decide +kernel
theorem dX0_fits_12 : decode cX0_fits 12 = .ok (.invokestatic 46, 3) := by decide +kernel
theorem dX0_fits_15 : decode cX0_fits 15 = .ok (.ifCond .eq 7, 3) := by decide +kernel
theorem dX0_fits_18 : decode cX0_fits 18 = .ok (.iconst 1, 1) := by decide +kernel
theorem dX0_fits_19 : decode cX0_fits 19 = .ok (.goto 4, 3) := by decide +kernel
theorem dX0_fits_22 : decode cX0_fits 22 = .ok (.iconst 0, 1) := by decide +kernel
theorem dX0_fits_23 : decode cX0_fits 23 = .ok (.ireturn, 1) := by decide +kernel
set_option maxRecDepth 20000 in
theorem ggX0_mostAnswer_X3_at : GoodIn wsX0_mostAnswer wsX3_at := goodIn_r _ [5] (by decide +kernel) (by decide +kernel)
set_option maxRecDepth 20000 in
theorem gX0_mostAnswer_X3_at_n34 : GoodIn wsX0_mostAnswer (wsX3_at) := ggX0_mostAnswer_X3_at
set_option maxRecDepth 20000 in
theorem ggX0_mostAnswer_X0_mostWithTeeth : GoodIn wsX0_mostAnswer wsX0_mostWithTeeth := goodIn_r _ [9] (by decide +kernel) (by decide +kernel)
set_option maxRecDepth 20000 in
theorem gX0_mostAnswer_X0_mostWithTeeth : GoodIn wsX0_mostAnswer (va_wsS RX0 50 yX0_mostWithTeeth wsX0_mostWithTeeth) := goodIn_app (goodIn_of _ (by decide +kernel)) ggX0_mostAnswer_X0_mostWithTeeth
theorem dX0_mostAnswer_0 : decode cX0_mostAnswer 0 = .ok (.aload_n 0, 1) := by decide +kernel
theorem dX0_mostAnswer_1 : decode cX0_mostAnswer 1 = .ok (.getfield 9, 3) := by decide +kernel
theorem dX0_mostAnswer_4 : decode cX0_mostAnswer 4 = .ok (.iload_n 1, 1) := by decide +kernel
theorem dX0_mostAnswer_5 : decode cX0_mostAnswer 5 = .ok (.invokestatic 34, 3) := by decide +kernel
theorem dX0_mostAnswer_8 : decode cX0_mostAnswer 8 = .ok (.tableswitch 45 0 2 #[28, 40, 42], 28) := by decide +kernel
theorem dX0_mostAnswer_36 : decode cX0_mostAnswer 36 = .ok (.aload_n 0, 1) := by decide +kernel
theorem dX0_mostAnswer_37 : decode cX0_mostAnswer 37 = .ok (.getfield 18, 3) := by decide +kernel
theorem dX0_mostAnswer_40 : decode cX0_mostAnswer 40 = .ok (.iload_n 1, 1) := by decide +kernel
theorem dX0_mostAnswer_41 : decode cX0_mostAnswer 41 = .ok (.invokestatic 34, 3) := by decide +kernel
theorem dX0_mostAnswer_44 : decode cX0_mostAnswer 44 = .ok (.invokestatic 50, 3) := by decide +kernel
theorem dX0_mostAnswer_47 : decode cX0_mostAnswer 47 = .ok (.ireturn, 1) := by decide +kernel
theorem dX0_mostAnswer_48 : decode cX0_mostAnswer 48 = .ok (.iconst 1, 1) := by decide +kernel
theorem dX0_mostAnswer_49 : decode cX0_mostAnswer 49 = .ok (.ireturn, 1) := by decide +kernel
theorem dX0_mostAnswer_50 : decode cX0_mostAnswer 50 = .ok (.bipush 99, 2) := by decide +kernel
theorem dX0_mostAnswer_52 : decode cX0_mostAnswer 52 = .ok (.ireturn, 1) := by decide +kernel
theorem dX0_mostAnswer_53 : decode cX0_mostAnswer 53 = .ok (.iconst (-1), 1) := by decide +kernel
theorem dX0_mostAnswer_54 : decode cX0_mostAnswer 54 = .ok (.ireturn, 1) := by decide +kernel
theorem dX0_mostWithTeeth_0 : decode cX0_mostWithTeeth 0 = .ok (.iconst 0, 1) := by decide +kernel
theorem dX0_mostWithTeeth_1 : decode cX0_mostWithTeeth 1 = .ok (.istore_n 1, 1) := by decide +kernel
theorem dX0_mostWithTeeth_2 : decode cX0_mostWithTeeth 2 = .ok (.iconst 0, 1) := by decide +kernel
theorem dX0_mostWithTeeth_3 : decode cX0_mostWithTeeth 3 = .ok (.istore_n 2, 1) := by decide +kernel
theorem dX0_mostWithTeeth_4 : decode cX0_mostWithTeeth 4 = .ok (.iload_n 2, 1) := by decide +kernel
theorem dX0_mostWithTeeth_5 : decode cX0_mostWithTeeth 5 = .ok (.iload_n 0, 1) := by decide +kernel
theorem dX0_mostWithTeeth_6 : decode cX0_mostWithTeeth 6 = .ok (.if_icmp .ge 22, 3) := by decide +kernel
theorem dX0_mostWithTeeth_9 : decode cX0_mostWithTeeth 9 = .ok (.iload_n 2, 1) := by decide +kernel
theorem dX0_mostWithTeeth_10 : decode cX0_mostWithTeeth 10 = .ok (.iconst 5, 1) := by decide +kernel
theorem dX0_mostWithTeeth_11 : decode cX0_mostWithTeeth 11 = .ok (.if_icmp .ge 17, 3) := by decide +kernel
theorem dX0_mostWithTeeth_14 : decode cX0_mostWithTeeth 14 = .ok (.iload_n 1, 1) := by decide +kernel
theorem dX0_mostWithTeeth_15 : decode cX0_mostWithTeeth 15 = .ok (.bipush 10, 2) := by decide +kernel
theorem dX0_mostWithTeeth_17 : decode cX0_mostWithTeeth 17 = .ok (.imul, 1) := by decide +kernel
theorem dX0_mostWithTeeth_18 : decode cX0_mostWithTeeth 18 = .ok (.bipush 9, 2) := by decide +kernel
theorem dX0_mostWithTeeth_20 : decode cX0_mostWithTeeth 20 = .ok (.iadd, 1) := by decide +kernel
theorem dX0_mostWithTeeth_21 : decode cX0_mostWithTeeth 21 = .ok (.istore_n 1, 1) := by decide +kernel
theorem dX0_mostWithTeeth_22 : decode cX0_mostWithTeeth 22 = .ok (.iinc 2 1, 3) := by decide +kernel
theorem dX0_mostWithTeeth_25 : decode cX0_mostWithTeeth 25 = .ok (.goto (-21), 3) := by decide +kernel
theorem dX0_mostWithTeeth_28 : decode cX0_mostWithTeeth 28 = .ok (.iload_n 1, 1) := by decide +kernel
theorem dX0_mostWithTeeth_29 : decode cX0_mostWithTeeth 29 = .ok (.ireturn, 1) := by decide +kernel
set_option maxRecDepth 20000 in
theorem ggX0_answered_X3_at : GoodIn wsX0_answered wsX3_at := goodIn_r _ [5] (by decide +kernel) (by decide +kernel)
set_option maxRecDepth 20000 in
theorem gX0_answered_X3_at_n34 : GoodIn wsX0_answered (wsX3_at) := ggX0_answered_X3_at
theorem dX0_answered_0 : decode cX0_answered 0 = .ok (.iconst 0, 1) := by decide +kernel
theorem dX0_answered_1 : decode cX0_answered 1 = .ok (.istore_n 1, 1) := by decide +kernel
theorem dX0_answered_2 : decode cX0_answered 2 = .ok (.iconst 0, 1) := by decide +kernel
theorem dX0_answered_3 : decode cX0_answered 3 = .ok (.istore_n 2, 1) := by decide +kernel
theorem dX0_answered_4 : decode cX0_answered 4 = .ok (.iload_n 2, 1) := by decide +kernel
theorem dX0_answered_5 : decode cX0_answered 5 = .ok (.aload_n 0, 1) := by decide +kernel
theorem dX0_answered_6 : decode cX0_answered 6 = .ok (.getfield 30, 3) := by decide +kernel
theorem dX0_answered_9 : decode cX0_answered 9 = .ok (.if_icmp .ge 24, 3) := by decide +kernel
theorem dX0_answered_12 : decode cX0_answered 12 = .ok (.aload_n 0, 1) := by decide +kernel
theorem dX0_answered_13 : decode cX0_answered 13 = .ok (.getfield 24, 3) := by decide +kernel
theorem dX0_answered_16 : decode cX0_answered 16 = .ok (.iload_n 2, 1) := by decide +kernel
theorem dX0_answered_17 : decode cX0_answered 17 = .ok (.invokestatic 34, 3) := by decide +kernel
theorem dX0_answered_20 : decode cX0_answered 20 = .ok (.iconst (-1), 1) := by decide +kernel
theorem dX0_answered_21 : decode cX0_answered 21 = .ok (.if_icmp .eq 6, 3) := by decide +kernel
theorem dX0_answered_24 : decode cX0_answered 24 = .ok (.iinc 1 1, 3) := by decide +kernel
theorem dX0_answered_27 : decode cX0_answered 27 = .ok (.iinc 2 1, 3) := by decide +kernel
theorem dX0_answered_30 : decode cX0_answered 30 = .ok (.goto (-26), 3) := by decide +kernel
theorem dX0_answered_33 : decode cX0_answered 33 = .ok (.iload_n 1, 1) := by decide +kernel
theorem dX0_answered_34 : decode cX0_answered 34 = .ok (.ireturn, 1) := by decide +kernel
set_option maxRecDepth 20000 in
theorem ggX0_openParts_X0_isTicked : GoodIn wsX0_openParts wsX0_isTicked := goodIn_r _ [5, 6, 7, 8, 9, 10, 4, 11, 12, 13, 14, 15, 16, 17, 18, 19, 20, 21, 22, 23, 33, 34, 35, 36, 37, 38, 39] (by decide +kernel) (by decide +kernel)
set_option maxRecDepth 20000 in
theorem gX0_openParts_X0_isTicked : GoodIn wsX0_openParts (wsV RX0 53 RX0 yX0_isTicked wsX0_isTicked) := goodIn_app (goodIn_of _ (by decide +kernel)) ggX0_openParts_X0_isTicked
set_option maxRecDepth 20000 in
theorem ggX0_openParts_X0_isSkipped : GoodIn wsX0_openParts wsX0_isSkipped := goodIn_r _ [27, 6, 7, 28, 29, 30, 31, 4, 32, 12, 14, 15, 16, 8, 9, 10, 11, 13, 17, 18, 19, 20, 21, 22, 23, 33, 34, 35, 36, 37, 38, 39] (by decide +kernel) (by decide +kernel)
set_option maxRecDepth 20000 in
theorem gX0_openParts_X0_isSkipped : GoodIn wsX0_openParts (wsV RX0 57 RX0 yX0_isSkipped wsX0_isSkipped) := goodIn_app (goodIn_of _ (by decide +kernel)) ggX0_openParts_X0_isSkipped
theorem dX0_openParts_0 : decode cX0_openParts 0 = .ok (.iconst 1, 1) := by decide +kernel
theorem dX0_openParts_1 : decode cX0_openParts 1 = .ok (.istore_n 1, 1) := by decide +kernel
theorem dX0_openParts_2 : decode cX0_openParts 2 = .ok (.iconst 1, 1) := by decide +kernel
theorem dX0_openParts_3 : decode cX0_openParts 3 = .ok (.istore_n 2, 1) := by decide +kernel
theorem dX0_openParts_4 : decode cX0_openParts 4 = .ok (.iload_n 2, 1) := by decide +kernel
theorem dX0_openParts_5 : decode cX0_openParts 5 = .ok (.iconst 5, 1) := by decide +kernel
theorem dX0_openParts_6 : decode cX0_openParts 6 = .ok (.if_icmp .ge 33, 3) := by decide +kernel
theorem dX0_openParts_9 : decode cX0_openParts 9 = .ok (.aload_n 0, 1) := by decide +kernel
theorem dX0_openParts_10 : decode cX0_openParts 10 = .ok (.iload_n 2, 1) := by decide +kernel
theorem dX0_openParts_11 : decode cX0_openParts 11 = .ok (.iload_n 1, 1) := by decide +kernel
theorem dX0_openParts_12 : decode cX0_openParts 12 = .ok (.invokevirtual 53, 3) := by decide +kernel
theorem dX0_openParts_15 : decode cX0_openParts 15 = .ok (.ifCond .eq 18, 3) := by decide +kernel
theorem dX0_openParts_18 : decode cX0_openParts 18 = .ok (.aload_n 0, 1) := by decide +kernel
theorem dX0_openParts_19 : decode cX0_openParts 19 = .ok (.iload_n 2, 1) := by decide +kernel
theorem dX0_openParts_20 : decode cX0_openParts 20 = .ok (.iload_n 1, 1) := by decide +kernel
theorem dX0_openParts_21 : decode cX0_openParts 21 = .ok (.invokevirtual 57, 3) := by decide +kernel
theorem dX0_openParts_24 : decode cX0_openParts 24 = .ok (.ifCond .ne 9, 3) := by decide +kernel
theorem dX0_openParts_27 : decode cX0_openParts 27 = .ok (.iload_n 1, 1) := by decide +kernel
theorem dX0_openParts_28 : decode cX0_openParts 28 = .ok (.iconst 1, 1) := by decide +kernel
theorem dX0_openParts_29 : decode cX0_openParts 29 = .ok (.iload_n 2, 1) := by decide +kernel
theorem dX0_openParts_30 : decode cX0_openParts 30 = .ok (.ishl, 1) := by decide +kernel
theorem dX0_openParts_31 : decode cX0_openParts 31 = .ok (.ior, 1) := by decide +kernel
theorem dX0_openParts_32 : decode cX0_openParts 32 = .ok (.istore_n 1, 1) := by decide +kernel
theorem dX0_openParts_33 : decode cX0_openParts 33 = .ok (.iinc 2 1, 3) := by decide +kernel
theorem dX0_openParts_36 : decode cX0_openParts 36 = .ok (.goto (-32), 3) := by decide +kernel
theorem dX0_openParts_39 : decode cX0_openParts 39 = .ok (.iload_n 1, 1) := by decide +kernel
theorem dX0_openParts_40 : decode cX0_openParts 40 = .ok (.ireturn, 1) := by decide +kernel
set_option maxRecDepth 20000 in
theorem ggX0_isTicked_X0_isFor : GoodIn wsX0_isTicked wsX0_isFor := goodIn_r _ [7, 8, 9, 10, 11, 12, 20, 21, 22, 23, 24, 25, 26] (by decide +kernel) (by decide +kernel)
set_option maxRecDepth 20000 in
theorem gX0_isTicked_X0_isFor : GoodIn wsX0_isTicked (wsV RX0 60 RX0 yX0_isFor wsX0_isFor) := goodIn_app (goodIn_of _ (by decide +kernel)) ggX0_isTicked_X0_isFor
set_option maxRecDepth 20000 in
theorem ggX0_isTicked_X0_isOpen : GoodIn wsX0_isTicked wsX0_isOpen := goodIn_r _ [16, 17, 10, 11, 12, 18, 19, 20, 21, 22, 23, 24, 25, 26] (by decide +kernel) (by decide +kernel)
set_option maxRecDepth 20000 in
theorem gX0_isTicked_X0_isOpen : GoodIn wsX0_isTicked (wsV RX0 63 RX0 yX0_isOpen wsX0_isOpen) := goodIn_app (goodIn_of _ (by decide +kernel)) ggX0_isTicked_X0_isOpen
set_option maxRecDepth 20000 in
theorem ggX0_isTicked_X3_at : GoodIn wsX0_isTicked wsX3_at := goodIn_r _ [12] (by decide +kernel) (by decide +kernel)
set_option maxRecDepth 20000 in
theorem gX0_isTicked_X3_at_n34 : GoodIn wsX0_isTicked (wsX3_at) := ggX0_isTicked_X3_at
theorem dX0_isTicked_0 : decode cX0_isTicked 0 = .ok (.iconst 0, 1) := by decide +kernel
theorem dX0_isTicked_1 : decode cX0_isTicked 1 = .ok (.istore_n 3, 1) := by decide +kernel
theorem dX0_isTicked_2 : decode cX0_isTicked 2 = .ok (.iconst 0, 1) := by decide +kernel
theorem dX0_isTicked_3 : decode cX0_isTicked 3 = .ok (.istore 4, 2) := by decide +kernel
theorem dX0_isTicked_5 : decode cX0_isTicked 5 = .ok (.iload 4, 2) := by decide +kernel
theorem dX0_isTicked_7 : decode cX0_isTicked 7 = .ok (.aload_n 0, 1) := by decide +kernel
theorem dX0_isTicked_8 : decode cX0_isTicked 8 = .ok (.getfield 30, 3) := by decide +kernel
theorem dX0_isTicked_11 : decode cX0_isTicked 11 = .ok (.if_icmp .ge 47, 3) := by decide +kernel
theorem dX0_isTicked_14 : decode cX0_isTicked 14 = .ok (.aload_n 0, 1) := by decide +kernel
theorem dX0_isTicked_15 : decode cX0_isTicked 15 = .ok (.iload 4, 2) := by decide +kernel
theorem dX0_isTicked_17 : decode cX0_isTicked 17 = .ok (.iconst 1, 1) := by decide +kernel
theorem dX0_isTicked_18 : decode cX0_isTicked 18 = .ok (.iload_n 1, 1) := by decide +kernel
theorem dX0_isTicked_19 : decode cX0_isTicked 19 = .ok (.invokevirtual 60, 3) := by decide +kernel
theorem dX0_isTicked_22 : decode cX0_isTicked 22 = .ok (.ifCond .eq 30, 3) := by decide +kernel
theorem dX0_isTicked_25 : decode cX0_isTicked 25 = .ok (.aload_n 0, 1) := by decide +kernel
theorem dX0_isTicked_26 : decode cX0_isTicked 26 = .ok (.iload 4, 2) := by decide +kernel
theorem dX0_isTicked_28 : decode cX0_isTicked 28 = .ok (.iload_n 2, 1) := by decide +kernel
theorem dX0_isTicked_29 : decode cX0_isTicked 29 = .ok (.invokevirtual 63, 3) := by decide +kernel
theorem dX0_isTicked_32 : decode cX0_isTicked 32 = .ok (.ifCond .eq 18, 3) := by decide +kernel
theorem dX0_isTicked_35 : decode cX0_isTicked 35 = .ok (.aload_n 0, 1) := by decide +kernel
theorem dX0_isTicked_36 : decode cX0_isTicked 36 = .ok (.getfield 24, 3) := by decide +kernel
theorem dX0_isTicked_39 : decode cX0_isTicked 39 = .ok (.iload 4, 2) := by decide +kernel
theorem dX0_isTicked_41 : decode cX0_isTicked 41 = .ok (.invokestatic 34, 3) := by decide +kernel
theorem dX0_isTicked_44 : decode cX0_isTicked 44 = .ok (.iconst 1, 1) := by decide +kernel
theorem dX0_isTicked_45 : decode cX0_isTicked 45 = .ok (.if_icmp .ne 5, 3) := by decide +kernel
theorem dX0_isTicked_48 : decode cX0_isTicked 48 = .ok (.iconst 1, 1) := by decide +kernel
theorem dX0_isTicked_49 : decode cX0_isTicked 49 = .ok (.ireturn, 1) := by decide +kernel
theorem dX0_isTicked_50 : decode cX0_isTicked 50 = .ok (.iconst 1, 1) := by decide +kernel
theorem dX0_isTicked_51 : decode cX0_isTicked 51 = .ok (.istore_n 3, 1) := by decide +kernel
theorem dX0_isTicked_52 : decode cX0_isTicked 52 = .ok (.iinc 4 1, 3) := by decide +kernel
theorem dX0_isTicked_55 : decode cX0_isTicked 55 = .ok (.goto (-50), 3) := by decide +kernel
theorem dX0_isTicked_58 : decode cX0_isTicked 58 = .ok (.iload_n 3, 1) := by decide +kernel
theorem dX0_isTicked_59 : decode cX0_isTicked 59 = .ok (.ifCond .ne 7, 3) := by decide +kernel
theorem dX0_isTicked_62 : decode cX0_isTicked 62 = .ok (.iconst 1, 1) := by decide +kernel
theorem dX0_isTicked_63 : decode cX0_isTicked 63 = .ok (.goto 4, 3) := by decide +kernel
theorem dX0_isTicked_66 : decode cX0_isTicked 66 = .ok (.iconst 0, 1) := by decide +kernel
theorem dX0_isTicked_67 : decode cX0_isTicked 67 = .ok (.ireturn, 1) := by decide +kernel
set_option maxRecDepth 20000 in
theorem ggX0_isSkipped_X0_isEmpty : GoodIn wsX0_isSkipped wsX0_isEmpty := goodIn_r _ [8, 9, 2, 10, 11, 12, 25, 26, 27, 28, 29, 30, 31] (by decide +kernel) (by decide +kernel)
set_option maxRecDepth 20000 in
theorem gX0_isSkipped_X0_isEmpty : GoodIn wsX0_isSkipped (wsV RX0 66 RX0 yX0_isEmpty wsX0_isEmpty) := goodIn_app (goodIn_of _ (by decide +kernel)) ggX0_isSkipped_X0_isEmpty
set_option maxRecDepth 20000 in
theorem ggX0_isSkipped_X3_at : GoodIn wsX0_isSkipped wsX3_at := goodIn_r _ [12] (by decide +kernel) (by decide +kernel)
set_option maxRecDepth 20000 in
theorem gX0_isSkipped_X3_at_n34 : GoodIn wsX0_isSkipped (wsX3_at) := ggX0_isSkipped_X3_at
set_option maxRecDepth 20000 in
theorem ggX0_isSkipped_X0_isFor : GoodIn wsX0_isSkipped wsX0_isFor := goodIn_r _ [16, 9, 17, 10, 11, 12, 25, 26, 27, 28, 29, 30, 31] (by decide +kernel) (by decide +kernel)
set_option maxRecDepth 20000 in
theorem gX0_isSkipped_X0_isFor : GoodIn wsX0_isSkipped (wsV RX0 60 RX0 yX0_isFor wsX0_isFor) := goodIn_app (goodIn_of _ (by decide +kernel)) ggX0_isSkipped_X0_isFor
set_option maxRecDepth 20000 in
theorem ggX0_isSkipped_X0_isOpen : GoodIn wsX0_isSkipped wsX0_isOpen := goodIn_r _ [21, 22, 10, 11, 12, 23, 24, 25, 26, 27, 28, 29, 30, 31] (by decide +kernel) (by decide +kernel)
set_option maxRecDepth 20000 in
theorem gX0_isSkipped_X0_isOpen : GoodIn wsX0_isSkipped (wsV RX0 63 RX0 yX0_isOpen wsX0_isOpen) := goodIn_app (goodIn_of _ (by decide +kernel)) ggX0_isSkipped_X0_isOpen
theorem dX0_isSkipped_0 : decode cX0_isSkipped 0 = .ok (.iconst 0, 1) := by decide +kernel
theorem dX0_isSkipped_1 : decode cX0_isSkipped 1 = .ok (.istore_n 3, 1) := by decide +kernel
theorem dX0_isSkipped_2 : decode cX0_isSkipped 2 = .ok (.iload_n 3, 1) := by decide +kernel
theorem dX0_isSkipped_3 : decode cX0_isSkipped 3 = .ok (.aload_n 0, 1) := by decide +kernel
theorem dX0_isSkipped_4 : decode cX0_isSkipped 4 = .ok (.getfield 30, 3) := by decide +kernel
theorem dX0_isSkipped_7 : decode cX0_isSkipped 7 = .ok (.if_icmp .ge 69, 3) := by decide +kernel
theorem dX0_isSkipped_10 : decode cX0_isSkipped 10 = .ok (.aload_n 0, 1) := by decide +kernel
theorem dX0_isSkipped_11 : decode cX0_isSkipped 11 = .ok (.iload_n 3, 1) := by decide +kernel
theorem dX0_isSkipped_12 : decode cX0_isSkipped 12 = .ok (.invokevirtual 66, 3) := by decide +kernel
theorem dX0_isSkipped_15 : decode cX0_isSkipped 15 = .ok (.ifCond .ne 26, 3) := by decide +kernel
theorem dX0_isSkipped_18 : decode cX0_isSkipped 18 = .ok (.aload_n 0, 1) := by decide +kernel
theorem dX0_isSkipped_19 : decode cX0_isSkipped 19 = .ok (.getfield 24, 3) := by decide +kernel
theorem dX0_isSkipped_22 : decode cX0_isSkipped 22 = .ok (.iload_n 3, 1) := by decide +kernel
theorem dX0_isSkipped_23 : decode cX0_isSkipped 23 = .ok (.invokestatic 34, 3) := by decide +kernel
theorem dX0_isSkipped_26 : decode cX0_isSkipped 26 = .ok (.aload_n 0, 1) := by decide +kernel
theorem dX0_isSkipped_27 : decode cX0_isSkipped 27 = .ok (.getfield 21, 3) := by decide +kernel
theorem dX0_isSkipped_30 : decode cX0_isSkipped 30 = .ok (.iload_n 3, 1) := by decide +kernel
theorem dX0_isSkipped_31 : decode cX0_isSkipped 31 = .ok (.invokestatic 34, 3) := by decide +kernel
theorem dX0_isSkipped_34 : decode cX0_isSkipped 34 = .ok (.if_icmp .lt 7, 3) := by decide +kernel
theorem dX0_isSkipped_37 : decode cX0_isSkipped 37 = .ok (.iconst 1, 1) := by decide +kernel
theorem dX0_isSkipped_38 : decode cX0_isSkipped 38 = .ok (.goto 4, 3) := by decide +kernel
theorem dX0_isSkipped_41 : decode cX0_isSkipped 41 = .ok (.iconst 0, 1) := by decide +kernel
theorem dX0_isSkipped_42 : decode cX0_isSkipped 42 = .ok (.istore 4, 2) := by decide +kernel
theorem dX0_isSkipped_44 : decode cX0_isSkipped 44 = .ok (.aload_n 0, 1) := by decide +kernel
theorem dX0_isSkipped_45 : decode cX0_isSkipped 45 = .ok (.iload_n 3, 1) := by decide +kernel
theorem dX0_isSkipped_46 : decode cX0_isSkipped 46 = .ok (.iconst 2, 1) := by decide +kernel
theorem dX0_isSkipped_47 : decode cX0_isSkipped 47 = .ok (.iload_n 1, 1) := by decide +kernel
theorem dX0_isSkipped_48 : decode cX0_isSkipped 48 = .ok (.invokevirtual 60, 3) := by decide +kernel
theorem dX0_isSkipped_51 : decode cX0_isSkipped 51 = .ok (.ifCond .eq 19, 3) := by decide +kernel
theorem dX0_isSkipped_54 : decode cX0_isSkipped 54 = .ok (.aload_n 0, 1) := by decide +kernel
theorem dX0_isSkipped_55 : decode cX0_isSkipped 55 = .ok (.iload_n 3, 1) := by decide +kernel
theorem dX0_isSkipped_56 : decode cX0_isSkipped 56 = .ok (.iload_n 2, 1) := by decide +kernel
theorem dX0_isSkipped_57 : decode cX0_isSkipped 57 = .ok (.invokevirtual 63, 3) := by decide +kernel
theorem dX0_isSkipped_60 : decode cX0_isSkipped 60 = .ok (.ifCond .eq 10, 3) := by decide +kernel
theorem dX0_isSkipped_63 : decode cX0_isSkipped 63 = .ok (.iload 4, 2) := by decide +kernel
theorem dX0_isSkipped_65 : decode cX0_isSkipped 65 = .ok (.ifCond .eq 5, 3) := by decide +kernel
theorem dX0_isSkipped_68 : decode cX0_isSkipped 68 = .ok (.iconst 1, 1) := by decide +kernel
theorem dX0_isSkipped_69 : decode cX0_isSkipped 69 = .ok (.ireturn, 1) := by decide +kernel
theorem dX0_isSkipped_70 : decode cX0_isSkipped 70 = .ok (.iinc 3 1, 3) := by decide +kernel
theorem dX0_isSkipped_73 : decode cX0_isSkipped 73 = .ok (.goto (-71), 3) := by decide +kernel
theorem dX0_isSkipped_76 : decode cX0_isSkipped 76 = .ok (.iconst 0, 1) := by decide +kernel
theorem dX0_isSkipped_77 : decode cX0_isSkipped 77 = .ok (.ireturn, 1) := by decide +kernel
set_option maxRecDepth 20000 in
theorem ggX0_boxesFor_X0_isFor : GoodIn wsX0_boxesFor wsX0_isFor := goodIn_r _ [6, 7, 8, 9, 10, 11, 12, 13, 14, 15, 16, 17, 18] (by decide +kernel) (by decide +kernel)
set_option maxRecDepth 20000 in
theorem gX0_boxesFor_X0_isFor : GoodIn wsX0_boxesFor (wsV RX0 60 RX0 yX0_isFor wsX0_isFor) := goodIn_app (goodIn_of _ (by decide +kernel)) ggX0_boxesFor_X0_isFor
theorem dX0_boxesFor_0 : decode cX0_boxesFor 0 = .ok (.iconst 0, 1) := by decide +kernel
theorem dX0_boxesFor_1 : decode cX0_boxesFor 1 = .ok (.istore_n 3, 1) := by decide +kernel
theorem dX0_boxesFor_2 : decode cX0_boxesFor 2 = .ok (.iconst 0, 1) := by decide +kernel
theorem dX0_boxesFor_3 : decode cX0_boxesFor 3 = .ok (.istore 4, 2) := by decide +kernel
theorem dX0_boxesFor_5 : decode cX0_boxesFor 5 = .ok (.iload 4, 2) := by decide +kernel
theorem dX0_boxesFor_7 : decode cX0_boxesFor 7 = .ok (.aload_n 0, 1) := by decide +kernel
theorem dX0_boxesFor_8 : decode cX0_boxesFor 8 = .ok (.getfield 30, 3) := by decide +kernel
theorem dX0_boxesFor_11 : decode cX0_boxesFor 11 = .ok (.if_icmp .ge 23, 3) := by decide +kernel
theorem dX0_boxesFor_14 : decode cX0_boxesFor 14 = .ok (.aload_n 0, 1) := by decide +kernel
theorem dX0_boxesFor_15 : decode cX0_boxesFor 15 = .ok (.iload 4, 2) := by decide +kernel
theorem dX0_boxesFor_17 : decode cX0_boxesFor 17 = .ok (.iload_n 1, 1) := by decide +kernel
theorem dX0_boxesFor_18 : decode cX0_boxesFor 18 = .ok (.iload_n 2, 1) := by decide +kernel
theorem dX0_boxesFor_19 : decode cX0_boxesFor 19 = .ok (.invokevirtual 60, 3) := by decide +kernel
theorem dX0_boxesFor_22 : decode cX0_boxesFor 22 = .ok (.ifCond .eq 6, 3) := by decide +kernel
theorem dX0_boxesFor_25 : decode cX0_boxesFor 25 = .ok (.iinc 3 1, 3) := by decide +kernel
theorem dX0_boxesFor_28 : decode cX0_boxesFor 28 = .ok (.iinc 4 1, 3) := by decide +kernel
theorem dX0_boxesFor_31 : decode cX0_boxesFor 31 = .ok (.goto (-26), 3) := by decide +kernel
theorem dX0_boxesFor_34 : decode cX0_boxesFor 34 = .ok (.iload_n 3, 1) := by decide +kernel
theorem dX0_boxesFor_35 : decode cX0_boxesFor 35 = .ok (.ireturn, 1) := by decide +kernel
set_option maxRecDepth 20000 in
theorem ggX0_isOpen_X3_at : GoodIn wsX0_isOpen wsX3_at := goodIn_r _ [4] (by decide +kernel) (by decide +kernel)
set_option maxRecDepth 20000 in
theorem gX0_isOpen_X3_at_n34 : GoodIn wsX0_isOpen (wsX3_at) := ggX0_isOpen_X3_at
set_option maxRecDepth 20000 in
theorem ggX0_isOpen_X3_isInMask : GoodIn wsX0_isOpen wsX3_isInMask := goodIn_r _ [6] (by decide +kernel) (by decide +kernel)
set_option maxRecDepth 20000 in
theorem gX0_isOpen_X3_isInMask_n70 : GoodIn wsX0_isOpen (wsX3_isInMask) := ggX0_isOpen_X3_isInMask
theorem dX0_isOpen_0 : decode cX0_isOpen 0 = .ok (.aload_n 0, 1) := by decide +kernel
theorem dX0_isOpen_1 : decode cX0_isOpen 1 = .ok (.getfield 15, 3) := by decide +kernel
theorem dX0_isOpen_4 : decode cX0_isOpen 4 = .ok (.iload_n 1, 1) := by decide +kernel
theorem dX0_isOpen_5 : decode cX0_isOpen 5 = .ok (.invokestatic 34, 3) := by decide +kernel
theorem dX0_isOpen_8 : decode cX0_isOpen 8 = .ok (.iload_n 2, 1) := by decide +kernel
theorem dX0_isOpen_9 : decode cX0_isOpen 9 = .ok (.invokestatic 70, 3) := by decide +kernel
theorem dX0_isOpen_12 : decode cX0_isOpen 12 = .ok (.ireturn, 1) := by decide +kernel
set_option maxRecDepth 20000 in
theorem ggX0_wants_X0_isOpen : GoodIn wsX0_wants wsX0_isOpen := goodIn_r _ [5, 6, 7, 8, 9, 10, 11, 18, 19, 20, 21, 22, 23, 24] (by decide +kernel) (by decide +kernel)
set_option maxRecDepth 20000 in
theorem gX0_wants_X0_isOpen : GoodIn wsX0_wants (wsV RX0 63 RX0 yX0_isOpen wsX0_isOpen) := goodIn_app (goodIn_of _ (by decide +kernel)) ggX0_wants_X0_isOpen
set_option maxRecDepth 20000 in
theorem ggX0_wants_X0_isEmpty : GoodIn wsX0_wants wsX0_isEmpty := goodIn_r _ [15, 16, 17, 7, 8, 9, 18, 19, 20, 21, 22, 23, 24] (by decide +kernel) (by decide +kernel)
set_option maxRecDepth 20000 in
theorem gX0_wants_X0_isEmpty : GoodIn wsX0_wants (wsV RX0 66 RX0 yX0_isEmpty wsX0_isEmpty) := goodIn_app (goodIn_of _ (by decide +kernel)) ggX0_wants_X0_isEmpty
theorem dX0_wants_0 : decode cX0_wants 0 = .ok (.aload_n 0, 1) := by decide +kernel
theorem dX0_wants_1 : decode cX0_wants 1 = .ok (.iload_n 1, 1) := by decide +kernel
theorem dX0_wants_2 : decode cX0_wants 2 = .ok (.iload_n 2, 1) := by decide +kernel
theorem dX0_wants_3 : decode cX0_wants 3 = .ok (.invokevirtual 63, 3) := by decide +kernel
theorem dX0_wants_6 : decode cX0_wants 6 = .ok (.ifCond .eq 15, 3) := by decide +kernel
theorem dX0_wants_9 : decode cX0_wants 9 = .ok (.aload_n 0, 1) := by decide +kernel
theorem dX0_wants_10 : decode cX0_wants 10 = .ok (.iload_n 1, 1) := by decide +kernel
theorem dX0_wants_11 : decode cX0_wants 11 = .ok (.invokevirtual 66, 3) := by decide +kernel
theorem dX0_wants_14 : decode cX0_wants 14 = .ok (.ifCond .eq 7, 3) := by decide +kernel
theorem dX0_wants_17 : decode cX0_wants 17 = .ok (.iconst 1, 1) := by decide +kernel
theorem dX0_wants_18 : decode cX0_wants 18 = .ok (.goto 4, 3) := by decide +kernel
theorem dX0_wants_21 : decode cX0_wants 21 = .ok (.iconst 0, 1) := by decide +kernel
theorem dX0_wants_22 : decode cX0_wants 22 = .ok (.ireturn, 1) := by decide +kernel
set_option maxRecDepth 20000 in
theorem ggX0_boxesIn_X3_at : GoodIn wsX0_boxesIn wsX3_at := goodIn_r _ [5] (by decide +kernel) (by decide +kernel)
set_option maxRecDepth 20000 in
theorem gX0_boxesIn_X3_at_n34 : GoodIn wsX0_boxesIn (wsX3_at) := ggX0_boxesIn_X3_at
theorem dX0_boxesIn_0 : decode cX0_boxesIn 0 = .ok (.iconst 0, 1) := by decide +kernel
theorem dX0_boxesIn_1 : decode cX0_boxesIn 1 = .ok (.istore_n 2, 1) := by decide +kernel
theorem dX0_boxesIn_2 : decode cX0_boxesIn 2 = .ok (.iconst 0, 1) := by decide +kernel
theorem dX0_boxesIn_3 : decode cX0_boxesIn 3 = .ok (.istore_n 3, 1) := by decide +kernel
theorem dX0_boxesIn_4 : decode cX0_boxesIn 4 = .ok (.iload_n 3, 1) := by decide +kernel
theorem dX0_boxesIn_5 : decode cX0_boxesIn 5 = .ok (.aload_n 0, 1) := by decide +kernel
theorem dX0_boxesIn_6 : decode cX0_boxesIn 6 = .ok (.getfield 30, 3) := by decide +kernel
theorem dX0_boxesIn_9 : decode cX0_boxesIn 9 = .ok (.if_icmp .ge 24, 3) := by decide +kernel
theorem dX0_boxesIn_12 : decode cX0_boxesIn 12 = .ok (.aload_n 0, 1) := by decide +kernel
theorem dX0_boxesIn_13 : decode cX0_boxesIn 13 = .ok (.getfield 15, 3) := by decide +kernel
theorem dX0_boxesIn_16 : decode cX0_boxesIn 16 = .ok (.iload_n 3, 1) := by decide +kernel
theorem dX0_boxesIn_17 : decode cX0_boxesIn 17 = .ok (.invokestatic 34, 3) := by decide +kernel
theorem dX0_boxesIn_20 : decode cX0_boxesIn 20 = .ok (.iload_n 1, 1) := by decide +kernel
theorem dX0_boxesIn_21 : decode cX0_boxesIn 21 = .ok (.if_icmp .ne 6, 3) := by decide +kernel
theorem dX0_boxesIn_24 : decode cX0_boxesIn 24 = .ok (.iinc 2 1, 3) := by decide +kernel
theorem dX0_boxesIn_27 : decode cX0_boxesIn 27 = .ok (.iinc 3 1, 3) := by decide +kernel
theorem dX0_boxesIn_30 : decode cX0_boxesIn 30 = .ok (.goto (-26), 3) := by decide +kernel
theorem dX0_boxesIn_33 : decode cX0_boxesIn 33 = .ok (.iload_n 2, 1) := by decide +kernel
theorem dX0_boxesIn_34 : decode cX0_boxesIn 34 = .ok (.ireturn, 1) := by decide +kernel
set_option maxRecDepth 20000 in
theorem ggX0_wantingIn_X3_at : GoodIn wsX0_wantingIn wsX3_at := goodIn_r _ [5] (by decide +kernel) (by decide +kernel)
set_option maxRecDepth 20000 in
theorem gX0_wantingIn_X3_at_n34 : GoodIn wsX0_wantingIn (wsX3_at) := ggX0_wantingIn_X3_at
set_option maxRecDepth 20000 in
theorem ggX0_wantingIn_X0_wants : GoodIn wsX0_wantingIn wsX0_wants := goodIn_r _ [10, 11, 12, 13, 9, 14, 2, 3, 4, 5, 15, 16, 17, 18, 19, 20, 21, 22, 23, 24, 25, 26, 27, 28, 29] (by decide +kernel) (by decide +kernel)
set_option maxRecDepth 20000 in
theorem gX0_wantingIn_X0_wants : GoodIn wsX0_wantingIn (wsV RX0 73 RX0 yX0_wants wsX0_wants) := goodIn_app (goodIn_of _ (by decide +kernel)) ggX0_wantingIn_X0_wants
theorem dX0_wantingIn_0 : decode cX0_wantingIn 0 = .ok (.iconst 0, 1) := by decide +kernel
theorem dX0_wantingIn_1 : decode cX0_wantingIn 1 = .ok (.istore_n 3, 1) := by decide +kernel
theorem dX0_wantingIn_2 : decode cX0_wantingIn 2 = .ok (.iconst 0, 1) := by decide +kernel
theorem dX0_wantingIn_3 : decode cX0_wantingIn 3 = .ok (.istore 4, 2) := by decide +kernel
theorem dX0_wantingIn_5 : decode cX0_wantingIn 5 = .ok (.iload 4, 2) := by decide +kernel
theorem dX0_wantingIn_7 : decode cX0_wantingIn 7 = .ok (.aload_n 0, 1) := by decide +kernel
theorem dX0_wantingIn_8 : decode cX0_wantingIn 8 = .ok (.getfield 30, 3) := by decide +kernel
theorem dX0_wantingIn_11 : decode cX0_wantingIn 11 = .ok (.if_icmp .ge 35, 3) := by decide +kernel
theorem dX0_wantingIn_14 : decode cX0_wantingIn 14 = .ok (.aload_n 0, 1) := by decide +kernel
theorem dX0_wantingIn_15 : decode cX0_wantingIn 15 = .ok (.getfield 15, 3) := by decide +kernel
theorem dX0_wantingIn_18 : decode cX0_wantingIn 18 = .ok (.iload 4, 2) := by decide +kernel
theorem dX0_wantingIn_20 : decode cX0_wantingIn 20 = .ok (.invokestatic 34, 3) := by decide +kernel
theorem dX0_wantingIn_23 : decode cX0_wantingIn 23 = .ok (.iload_n 1, 1) := by decide +kernel
theorem dX0_wantingIn_24 : decode cX0_wantingIn 24 = .ok (.if_icmp .ne 16, 3) := by decide +kernel
theorem dX0_wantingIn_27 : decode cX0_wantingIn 27 = .ok (.aload_n 0, 1) := by decide +kernel
theorem dX0_wantingIn_28 : decode cX0_wantingIn 28 = .ok (.iload 4, 2) := by decide +kernel
theorem dX0_wantingIn_30 : decode cX0_wantingIn 30 = .ok (.iload_n 2, 1) := by decide +kernel
theorem dX0_wantingIn_31 : decode cX0_wantingIn 31 = .ok (.invokevirtual 73, 3) := by decide +kernel
theorem dX0_wantingIn_34 : decode cX0_wantingIn 34 = .ok (.ifCond .eq 6, 3) := by decide +kernel
theorem dX0_wantingIn_37 : decode cX0_wantingIn 37 = .ok (.iinc 3 1, 3) := by decide +kernel
theorem dX0_wantingIn_40 : decode cX0_wantingIn 40 = .ok (.iinc 4 1, 3) := by decide +kernel
theorem dX0_wantingIn_43 : decode cX0_wantingIn 43 = .ok (.goto (-38), 3) := by decide +kernel
theorem dX0_wantingIn_46 : decode cX0_wantingIn 46 = .ok (.iload_n 3, 1) := by decide +kernel
theorem dX0_wantingIn_47 : decode cX0_wantingIn 47 = .ok (.ireturn, 1) := by decide +kernel
set_option maxRecDepth 20000 in
theorem ggX0_wanting_X0_wants : GoodIn wsX0_wanting wsX0_wants := goodIn_r _ [6, 7, 8, 9, 5, 10, 11, 12, 13, 14, 15, 16, 17, 18, 19, 20, 21, 22, 23, 24, 25, 26, 27, 28, 29] (by decide +kernel) (by decide +kernel)
set_option maxRecDepth 20000 in
theorem gX0_wanting_X0_wants : GoodIn wsX0_wanting (wsV RX0 73 RX0 yX0_wants wsX0_wants) := goodIn_app (goodIn_of _ (by decide +kernel)) ggX0_wanting_X0_wants
theorem dX0_wanting_0 : decode cX0_wanting 0 = .ok (.iconst 0, 1) := by decide +kernel
theorem dX0_wanting_1 : decode cX0_wanting 1 = .ok (.istore_n 2, 1) := by decide +kernel
theorem dX0_wanting_2 : decode cX0_wanting 2 = .ok (.iconst 0, 1) := by decide +kernel
theorem dX0_wanting_3 : decode cX0_wanting 3 = .ok (.istore_n 3, 1) := by decide +kernel
theorem dX0_wanting_4 : decode cX0_wanting 4 = .ok (.iload_n 3, 1) := by decide +kernel
theorem dX0_wanting_5 : decode cX0_wanting 5 = .ok (.aload_n 0, 1) := by decide +kernel
theorem dX0_wanting_6 : decode cX0_wanting 6 = .ok (.getfield 30, 3) := by decide +kernel
theorem dX0_wanting_9 : decode cX0_wanting 9 = .ok (.if_icmp .ge 21, 3) := by decide +kernel
theorem dX0_wanting_12 : decode cX0_wanting 12 = .ok (.aload_n 0, 1) := by decide +kernel
theorem dX0_wanting_13 : decode cX0_wanting 13 = .ok (.iload_n 3, 1) := by decide +kernel
theorem dX0_wanting_14 : decode cX0_wanting 14 = .ok (.iload_n 1, 1) := by decide +kernel
theorem dX0_wanting_15 : decode cX0_wanting 15 = .ok (.invokevirtual 73, 3) := by decide +kernel
theorem dX0_wanting_18 : decode cX0_wanting 18 = .ok (.ifCond .eq 6, 3) := by decide +kernel
theorem dX0_wanting_21 : decode cX0_wanting 21 = .ok (.iinc 2 1, 3) := by decide +kernel
theorem dX0_wanting_24 : decode cX0_wanting 24 = .ok (.iinc 3 1, 3) := by decide +kernel
theorem dX0_wanting_27 : decode cX0_wanting 27 = .ok (.goto (-23), 3) := by decide +kernel
theorem dX0_wanting_30 : decode cX0_wanting 30 = .ok (.iload_n 2, 1) := by decide +kernel
theorem dX0_wanting_31 : decode cX0_wanting 31 = .ok (.ireturn, 1) := by decide +kernel
set_option maxRecDepth 20000 in
theorem ggX0_firstWanting_X0_wants : GoodIn wsX0_firstWanting wsX0_wants := goodIn_r _ [6, 7, 8, 9, 5, 10, 11, 12, 13, 14, 15, 16, 17, 18, 19, 20, 21, 22, 23, 24, 25, 26, 27, 28, 29] (by decide +kernel) (by decide +kernel)
set_option maxRecDepth 20000 in
theorem gX0_firstWanting_X0_wants : GoodIn wsX0_firstWanting (wsV RX0 73 RX0 yX0_wants wsX0_wants) := goodIn_app (goodIn_of _ (by decide +kernel)) ggX0_firstWanting_X0_wants
theorem dX0_firstWanting_0 : decode cX0_firstWanting 0 = .ok (.iconst 0, 1) := by decide +kernel
theorem dX0_firstWanting_1 : decode cX0_firstWanting 1 = .ok (.istore_n 2, 1) := by decide +kernel
theorem dX0_firstWanting_2 : decode cX0_firstWanting 2 = .ok (.iload_n 2, 1) := by decide +kernel
theorem dX0_firstWanting_3 : decode cX0_firstWanting 3 = .ok (.aload_n 0, 1) := by decide +kernel
theorem dX0_firstWanting_4 : decode cX0_firstWanting 4 = .ok (.getfield 30, 3) := by decide +kernel
theorem dX0_firstWanting_7 : decode cX0_firstWanting 7 = .ok (.if_icmp .ge 20, 3) := by decide +kernel
theorem dX0_firstWanting_10 : decode cX0_firstWanting 10 = .ok (.aload_n 0, 1) := by decide +kernel
theorem dX0_firstWanting_11 : decode cX0_firstWanting 11 = .ok (.iload_n 2, 1) := by decide +kernel
theorem dX0_firstWanting_12 : decode cX0_firstWanting 12 = .ok (.iload_n 1, 1) := by decide +kernel
theorem dX0_firstWanting_13 : decode cX0_firstWanting 13 = .ok (.invokevirtual 73, 3) := by decide +kernel
theorem dX0_firstWanting_16 : decode cX0_firstWanting 16 = .ok (.ifCond .eq 5, 3) := by decide +kernel
theorem dX0_firstWanting_19 : decode cX0_firstWanting 19 = .ok (.iload_n 2, 1) := by decide +kernel
theorem dX0_firstWanting_20 : decode cX0_firstWanting 20 = .ok (.ireturn, 1) := by decide +kernel
theorem dX0_firstWanting_21 : decode cX0_firstWanting 21 = .ok (.iinc 2 1, 3) := by decide +kernel
theorem dX0_firstWanting_24 : decode cX0_firstWanting 24 = .ok (.goto (-22), 3) := by decide +kernel
theorem dX0_firstWanting_27 : decode cX0_firstWanting 27 = .ok (.iconst (-1), 1) := by decide +kernel
theorem dX0_firstWanting_28 : decode cX0_firstWanting 28 = .ok (.ireturn, 1) := by decide +kernel
set_option maxRecDepth 20000 in
theorem ggX0_openBoxes_X0_isOpen : GoodIn wsX0_openBoxes wsX0_isOpen := goodIn_r _ [6, 7, 8, 9, 10, 11, 12, 13, 14, 15, 16, 17, 18, 19] (by decide +kernel) (by decide +kernel)
set_option maxRecDepth 20000 in
theorem gX0_openBoxes_X0_isOpen : GoodIn wsX0_openBoxes (wsV RX0 63 RX0 yX0_isOpen wsX0_isOpen) := goodIn_app (goodIn_of _ (by decide +kernel)) ggX0_openBoxes_X0_isOpen
theorem dX0_openBoxes_0 : decode cX0_openBoxes 0 = .ok (.iconst 0, 1) := by decide +kernel
theorem dX0_openBoxes_1 : decode cX0_openBoxes 1 = .ok (.istore_n 2, 1) := by decide +kernel
theorem dX0_openBoxes_2 : decode cX0_openBoxes 2 = .ok (.iconst 0, 1) := by decide +kernel
theorem dX0_openBoxes_3 : decode cX0_openBoxes 3 = .ok (.istore_n 3, 1) := by decide +kernel
theorem dX0_openBoxes_4 : decode cX0_openBoxes 4 = .ok (.iload_n 3, 1) := by decide +kernel
theorem dX0_openBoxes_5 : decode cX0_openBoxes 5 = .ok (.aload_n 0, 1) := by decide +kernel
theorem dX0_openBoxes_6 : decode cX0_openBoxes 6 = .ok (.getfield 30, 3) := by decide +kernel
theorem dX0_openBoxes_9 : decode cX0_openBoxes 9 = .ok (.if_icmp .ge 21, 3) := by decide +kernel
theorem dX0_openBoxes_12 : decode cX0_openBoxes 12 = .ok (.aload_n 0, 1) := by decide +kernel
theorem dX0_openBoxes_13 : decode cX0_openBoxes 13 = .ok (.iload_n 3, 1) := by decide +kernel
theorem dX0_openBoxes_14 : decode cX0_openBoxes 14 = .ok (.iload_n 1, 1) := by decide +kernel
theorem dX0_openBoxes_15 : decode cX0_openBoxes 15 = .ok (.invokevirtual 63, 3) := by decide +kernel
theorem dX0_openBoxes_18 : decode cX0_openBoxes 18 = .ok (.ifCond .eq 6, 3) := by decide +kernel
theorem dX0_openBoxes_21 : decode cX0_openBoxes 21 = .ok (.iinc 2 1, 3) := by decide +kernel
theorem dX0_openBoxes_24 : decode cX0_openBoxes 24 = .ok (.iinc 3 1, 3) := by decide +kernel
theorem dX0_openBoxes_27 : decode cX0_openBoxes 27 = .ok (.goto (-23), 3) := by decide +kernel
theorem dX0_openBoxes_30 : decode cX0_openBoxes 30 = .ok (.iload_n 2, 1) := by decide +kernel
theorem dX0_openBoxes_31 : decode cX0_openBoxes 31 = .ok (.ireturn, 1) := by decide +kernel
set_option maxRecDepth 20000 in
theorem ggX0_openToAnswer_X0_isOpen : GoodIn wsX0_openToAnswer wsX0_isOpen := goodIn_r _ [7, 8, 9, 10, 11, 12, 13, 14, 15, 16, 17, 18, 19, 20] (by decide +kernel) (by decide +kernel)
set_option maxRecDepth 20000 in
theorem gX0_openToAnswer_X0_isOpen : GoodIn wsX0_openToAnswer (wsV RX0 63 RX0 yX0_isOpen wsX0_isOpen) := goodIn_app (goodIn_of _ (by decide +kernel)) ggX0_openToAnswer_X0_isOpen
set_option maxRecDepth 20000 in
theorem ggX0_openToAnswer_X3_at : GoodIn wsX0_openToAnswer wsX3_at := goodIn_r _ [11] (by decide +kernel) (by decide +kernel)
set_option maxRecDepth 20000 in
theorem gX0_openToAnswer_X3_at_n34 : GoodIn wsX0_openToAnswer (wsX3_at) := ggX0_openToAnswer_X3_at
theorem dX0_openToAnswer_0 : decode cX0_openToAnswer 0 = .ok (.iconst 0, 1) := by decide +kernel
theorem dX0_openToAnswer_1 : decode cX0_openToAnswer 1 = .ok (.istore_n 2, 1) := by decide +kernel
theorem dX0_openToAnswer_2 : decode cX0_openToAnswer 2 = .ok (.iconst 0, 1) := by decide +kernel
theorem dX0_openToAnswer_3 : decode cX0_openToAnswer 3 = .ok (.istore_n 3, 1) := by decide +kernel
theorem dX0_openToAnswer_4 : decode cX0_openToAnswer 4 = .ok (.iload_n 3, 1) := by decide +kernel
theorem dX0_openToAnswer_5 : decode cX0_openToAnswer 5 = .ok (.aload_n 0, 1) := by decide +kernel
theorem dX0_openToAnswer_6 : decode cX0_openToAnswer 6 = .ok (.getfield 30, 3) := by decide +kernel
theorem dX0_openToAnswer_9 : decode cX0_openToAnswer 9 = .ok (.if_icmp .ge 33, 3) := by decide +kernel
theorem dX0_openToAnswer_12 : decode cX0_openToAnswer 12 = .ok (.aload_n 0, 1) := by decide +kernel
theorem dX0_openToAnswer_13 : decode cX0_openToAnswer 13 = .ok (.iload_n 3, 1) := by decide +kernel
theorem dX0_openToAnswer_14 : decode cX0_openToAnswer 14 = .ok (.iload_n 1, 1) := by decide +kernel
theorem dX0_openToAnswer_15 : decode cX0_openToAnswer 15 = .ok (.invokevirtual 63, 3) := by decide +kernel
theorem dX0_openToAnswer_18 : decode cX0_openToAnswer 18 = .ok (.ifCond .eq 18, 3) := by decide +kernel
theorem dX0_openToAnswer_21 : decode cX0_openToAnswer 21 = .ok (.aload_n 0, 1) := by decide +kernel
theorem dX0_openToAnswer_22 : decode cX0_openToAnswer 22 = .ok (.getfield 9, 3) := by decide +kernel
theorem dX0_openToAnswer_25 : decode cX0_openToAnswer 25 = .ok (.iload_n 3, 1) := by decide +kernel
theorem dX0_openToAnswer_26 : decode cX0_openToAnswer 26 = .ok (.invokestatic 34, 3) := by decide +kernel
theorem dX0_openToAnswer_29 : decode cX0_openToAnswer 29 = .ok (.iconst 3, 1) := by decide +kernel
theorem dX0_openToAnswer_30 : decode cX0_openToAnswer 30 = .ok (.if_icmp .eq 6, 3) := by decide +kernel
theorem dX0_openToAnswer_33 : decode cX0_openToAnswer 33 = .ok (.iinc 2 1, 3) := by decide +kernel
theorem dX0_openToAnswer_36 : decode cX0_openToAnswer 36 = .ok (.iinc 3 1, 3) := by decide +kernel
theorem dX0_openToAnswer_39 : decode cX0_openToAnswer 39 = .ok (.goto (-35), 3) := by decide +kernel
theorem dX0_openToAnswer_42 : decode cX0_openToAnswer 42 = .ok (.iload_n 2, 1) := by decide +kernel
theorem dX0_openToAnswer_43 : decode cX0_openToAnswer 43 = .ok (.ireturn, 1) := by decide +kernel
set_option maxRecDepth 20000 in
theorem ggX0_canComeTo_X3_isInMask : GoodIn wsX0_canComeTo wsX3_isInMask := goodIn_r _ [3] (by decide +kernel) (by decide +kernel)
set_option maxRecDepth 20000 in
theorem gX0_canComeTo_X3_isInMask_n70 : GoodIn wsX0_canComeTo (wsX3_isInMask) := ggX0_canComeTo_X3_isInMask
set_option maxRecDepth 20000 in
theorem ggX0_canComeTo_X0_canOpen : GoodIn wsX0_canComeTo wsX0_canOpen := goodIn_r _ [8, 9, 10, 11, 7, 12, 13, 14, 15, 16, 17, 18, 19, 20, 21, 2, 22, 23, 24, 25, 26, 27, 1, 3, 28, 29, 30, 31, 32, 33, 34, 35, 36, 37, 38, 39, 40, 45, 46, 47, 48, 49, 50, 51] (by decide +kernel) (by decide +kernel)
set_option maxRecDepth 20000 in
theorem gX0_canComeTo_X0_canOpen : GoodIn wsX0_canComeTo (wsV RX0 76 RX0 yX0_canOpen wsX0_canOpen) := goodIn_app (goodIn_of _ (by decide +kernel)) ggX0_canComeTo_X0_canOpen
set_option maxRecDepth 20000 in
theorem ggX0_canComeTo_X0_canClose : GoodIn wsX0_canComeTo wsX0_canClose := goodIn_r _ [44, 9, 10, 11, 7, 12, 13, 14, 15, 16, 17, 18, 19, 20, 21, 2, 22, 23, 24, 25, 26, 27, 1, 3, 37, 38, 39, 40, 32, 33, 34, 35, 36, 28, 29, 30, 31, 45, 46, 47, 48, 49, 50, 51] (by decide +kernel) (by decide +kernel)
set_option maxRecDepth 20000 in
theorem gX0_canComeTo_X0_canClose : GoodIn wsX0_canComeTo (wsV RX0 79 RX0 yX0_canClose wsX0_canClose) := goodIn_app (goodIn_of _ (by decide +kernel)) ggX0_canComeTo_X0_canClose
theorem dX0_canComeTo_0 : decode cX0_canComeTo 0 = .ok (.iconst 1, 1) := by decide +kernel
theorem dX0_canComeTo_1 : decode cX0_canComeTo 1 = .ok (.istore_n 2, 1) := by decide +kernel
theorem dX0_canComeTo_2 : decode cX0_canComeTo 2 = .ok (.iload_n 2, 1) := by decide +kernel
theorem dX0_canComeTo_3 : decode cX0_canComeTo 3 = .ok (.iconst 5, 1) := by decide +kernel
theorem dX0_canComeTo_4 : decode cX0_canComeTo 4 = .ok (.if_icmp .ge 39, 3) := by decide +kernel
theorem dX0_canComeTo_7 : decode cX0_canComeTo 7 = .ok (.iload_n 2, 1) := by decide +kernel
theorem dX0_canComeTo_8 : decode cX0_canComeTo 8 = .ok (.iload_n 1, 1) := by decide +kernel
theorem dX0_canComeTo_9 : decode cX0_canComeTo 9 = .ok (.invokestatic 70, 3) := by decide +kernel
theorem dX0_canComeTo_12 : decode cX0_canComeTo 12 = .ok (.ifCond .eq 12, 3) := by decide +kernel
theorem dX0_canComeTo_15 : decode cX0_canComeTo 15 = .ok (.aload_n 0, 1) := by decide +kernel
theorem dX0_canComeTo_16 : decode cX0_canComeTo 16 = .ok (.iload_n 2, 1) := by decide +kernel
theorem dX0_canComeTo_17 : decode cX0_canComeTo 17 = .ok (.iload_n 1, 1) := by decide +kernel
theorem dX0_canComeTo_18 : decode cX0_canComeTo 18 = .ok (.invokevirtual 76, 3) := by decide +kernel
theorem dX0_canComeTo_21 : decode cX0_canComeTo 21 = .ok (.goto 9, 3) := by decide +kernel
theorem dX0_canComeTo_24 : decode cX0_canComeTo 24 = .ok (.aload_n 0, 1) := by decide +kernel
theorem dX0_canComeTo_25 : decode cX0_canComeTo 25 = .ok (.iload_n 2, 1) := by decide +kernel
theorem dX0_canComeTo_26 : decode cX0_canComeTo 26 = .ok (.iload_n 1, 1) := by decide +kernel
theorem dX0_canComeTo_27 : decode cX0_canComeTo 27 = .ok (.invokevirtual 79, 3) := by decide +kernel
theorem dX0_canComeTo_30 : decode cX0_canComeTo 30 = .ok (.istore_n 3, 1) := by decide +kernel
theorem dX0_canComeTo_31 : decode cX0_canComeTo 31 = .ok (.iload_n 3, 1) := by decide +kernel
theorem dX0_canComeTo_32 : decode cX0_canComeTo 32 = .ok (.ifCond .ne 5, 3) := by decide +kernel
theorem dX0_canComeTo_35 : decode cX0_canComeTo 35 = .ok (.iconst 0, 1) := by decide +kernel
theorem dX0_canComeTo_36 : decode cX0_canComeTo 36 = .ok (.ireturn, 1) := by decide +kernel
theorem dX0_canComeTo_37 : decode cX0_canComeTo 37 = .ok (.iinc 2 1, 3) := by decide +kernel
theorem dX0_canComeTo_40 : decode cX0_canComeTo 40 = .ok (.goto (-38), 3) := by decide +kernel
theorem dX0_canComeTo_43 : decode cX0_canComeTo 43 = .ok (.iconst 1, 1) := by decide +kernel
theorem dX0_canComeTo_44 : decode cX0_canComeTo 44 = .ok (.ireturn, 1) := by decide +kernel
set_option maxRecDepth 20000 in
theorem ggX0_canOpen_X0_isTicked : GoodIn wsX0_canOpen wsX0_isTicked := goodIn_r _ [5, 6, 7, 8, 9, 10, 4, 11, 12, 13, 14, 15, 16, 17, 18, 19, 20, 21, 22, 23, 37, 38, 39, 40, 41, 42, 43] (by decide +kernel) (by decide +kernel)
set_option maxRecDepth 20000 in
theorem gX0_canOpen_X0_isTicked : GoodIn wsX0_canOpen (wsV RX0 53 RX0 yX0_isTicked wsX0_isTicked) := goodIn_app (goodIn_of _ (by decide +kernel)) ggX0_canOpen_X0_isTicked
set_option maxRecDepth 20000 in
theorem ggX0_canOpen_X0_hasWanting : GoodIn wsX0_canOpen wsX0_hasWanting := goodIn_r _ [27, 6, 28, 17, 18, 19, 4, 20, 21, 14, 15, 16, 22, 23, 29, 30, 31, 32, 12, 7, 8, 9, 10, 11, 13, 37, 38, 39, 40, 41, 42, 43] (by decide +kernel) (by decide +kernel)
set_option maxRecDepth 20000 in
theorem gX0_canOpen_X0_hasWanting : GoodIn wsX0_canOpen (wsV RX0 82 RX0 yX0_hasWanting wsX0_hasWanting) := goodIn_app (goodIn_of _ (by decide +kernel)) ggX0_canOpen_X0_hasWanting
set_option maxRecDepth 20000 in
theorem ggX0_canOpen_X0_isSkipped : GoodIn wsX0_canOpen wsX0_isSkipped := goodIn_r _ [36, 6, 7, 28, 29, 30, 31, 4, 32, 12, 14, 15, 16, 8, 9, 10, 11, 13, 17, 18, 19, 20, 21, 22, 23, 37, 38, 39, 40, 41, 42, 43] (by decide +kernel) (by decide +kernel)
set_option maxRecDepth 20000 in
theorem gX0_canOpen_X0_isSkipped : GoodIn wsX0_canOpen (wsV RX0 57 RX0 yX0_isSkipped wsX0_isSkipped) := goodIn_app (goodIn_of _ (by decide +kernel)) ggX0_canOpen_X0_isSkipped
theorem dX0_canOpen_0 : decode cX0_canOpen 0 = .ok (.aload_n 0, 1) := by decide +kernel
theorem dX0_canOpen_1 : decode cX0_canOpen 1 = .ok (.iload_n 1, 1) := by decide +kernel
theorem dX0_canOpen_2 : decode cX0_canOpen 2 = .ok (.iload_n 2, 1) := by decide +kernel
theorem dX0_canOpen_3 : decode cX0_canOpen 3 = .ok (.invokevirtual 53, 3) := by decide +kernel
theorem dX0_canOpen_6 : decode cX0_canOpen 6 = .ok (.ifCond .ne 14, 3) := by decide +kernel
theorem dX0_canOpen_9 : decode cX0_canOpen 9 = .ok (.aload_n 0, 1) := by decide +kernel
theorem dX0_canOpen_10 : decode cX0_canOpen 10 = .ok (.iconst 1, 1) := by decide +kernel
theorem dX0_canOpen_11 : decode cX0_canOpen 11 = .ok (.iload_n 1, 1) := by decide +kernel
theorem dX0_canOpen_12 : decode cX0_canOpen 12 = .ok (.iconst (-1), 1) := by decide +kernel
theorem dX0_canOpen_13 : decode cX0_canOpen 13 = .ok (.iload_n 2, 1) := by decide +kernel
theorem dX0_canOpen_14 : decode cX0_canOpen 14 = .ok (.invokevirtual 82, 3) := by decide +kernel
theorem dX0_canOpen_17 : decode cX0_canOpen 17 = .ok (.ifCond .eq 7, 3) := by decide +kernel
theorem dX0_canOpen_20 : decode cX0_canOpen 20 = .ok (.iconst 1, 1) := by decide +kernel
theorem dX0_canOpen_21 : decode cX0_canOpen 21 = .ok (.goto 4, 3) := by decide +kernel
theorem dX0_canOpen_24 : decode cX0_canOpen 24 = .ok (.iconst 0, 1) := by decide +kernel
theorem dX0_canOpen_25 : decode cX0_canOpen 25 = .ok (.istore_n 3, 1) := by decide +kernel
theorem dX0_canOpen_26 : decode cX0_canOpen 26 = .ok (.iload_n 3, 1) := by decide +kernel
theorem dX0_canOpen_27 : decode cX0_canOpen 27 = .ok (.ifCond .eq 27, 3) := by decide +kernel
theorem dX0_canOpen_30 : decode cX0_canOpen 30 = .ok (.aload_n 0, 1) := by decide +kernel
theorem dX0_canOpen_31 : decode cX0_canOpen 31 = .ok (.iload_n 1, 1) := by decide +kernel
theorem dX0_canOpen_32 : decode cX0_canOpen 32 = .ok (.iload_n 2, 1) := by decide +kernel
theorem dX0_canOpen_33 : decode cX0_canOpen 33 = .ok (.invokevirtual 57, 3) := by decide +kernel
theorem dX0_canOpen_36 : decode cX0_canOpen 36 = .ok (.ifCond .ne 18, 3) := by decide +kernel
theorem dX0_canOpen_39 : decode cX0_canOpen 39 = .ok (.aload_n 0, 1) := by decide +kernel
theorem dX0_canOpen_40 : decode cX0_canOpen 40 = .ok (.iconst 2, 1) := by decide +kernel
theorem dX0_canOpen_41 : decode cX0_canOpen 41 = .ok (.iload_n 1, 1) := by decide +kernel
theorem dX0_canOpen_42 : decode cX0_canOpen 42 = .ok (.iconst 0, 1) := by decide +kernel
theorem dX0_canOpen_43 : decode cX0_canOpen 43 = .ok (.iload_n 2, 1) := by decide +kernel
theorem dX0_canOpen_44 : decode cX0_canOpen 44 = .ok (.invokevirtual 82, 3) := by decide +kernel
theorem dX0_canOpen_47 : decode cX0_canOpen 47 = .ok (.ifCond .ne 7, 3) := by decide +kernel
theorem dX0_canOpen_50 : decode cX0_canOpen 50 = .ok (.iconst 1, 1) := by decide +kernel
theorem dX0_canOpen_51 : decode cX0_canOpen 51 = .ok (.goto 4, 3) := by decide +kernel
theorem dX0_canOpen_54 : decode cX0_canOpen 54 = .ok (.iconst 0, 1) := by decide +kernel
theorem dX0_canOpen_55 : decode cX0_canOpen 55 = .ok (.ireturn, 1) := by decide +kernel
set_option maxRecDepth 20000 in
theorem ggX0_canClose_X0_isTicked : GoodIn wsX0_canClose wsX0_isTicked := goodIn_r _ [5, 6, 7, 8, 9, 10, 4, 11, 12, 13, 14, 15, 16, 17, 18, 19, 20, 21, 22, 23, 37, 38, 39, 40, 41, 42, 43] (by decide +kernel) (by decide +kernel)
set_option maxRecDepth 20000 in
theorem gX0_canClose_X0_isTicked : GoodIn wsX0_canClose (wsV RX0 53 RX0 yX0_isTicked wsX0_isTicked) := goodIn_app (goodIn_of _ (by decide +kernel)) ggX0_canClose_X0_isTicked
set_option maxRecDepth 20000 in
theorem ggX0_canClose_X0_isSkipped : GoodIn wsX0_canClose wsX0_isSkipped := goodIn_r _ [27, 6, 7, 28, 29, 30, 31, 4, 32, 12, 14, 15, 16, 8, 9, 10, 11, 13, 17, 18, 19, 20, 21, 22, 23, 37, 38, 39, 40, 41, 42, 43] (by decide +kernel) (by decide +kernel)
set_option maxRecDepth 20000 in
theorem gX0_canClose_X0_isSkipped : GoodIn wsX0_canClose (wsV RX0 57 RX0 yX0_isSkipped wsX0_isSkipped) := goodIn_app (goodIn_of _ (by decide +kernel)) ggX0_canClose_X0_isSkipped
set_option maxRecDepth 20000 in
theorem ggX0_canClose_X0_hasWanting : GoodIn wsX0_canClose wsX0_hasWanting := goodIn_r _ [36, 6, 28, 17, 18, 19, 4, 20, 21, 14, 15, 16, 22, 23, 29, 30, 31, 32, 12, 7, 8, 9, 10, 11, 13, 37, 38, 39, 40, 41, 42, 43] (by decide +kernel) (by decide +kernel)
set_option maxRecDepth 20000 in
theorem gX0_canClose_X0_hasWanting : GoodIn wsX0_canClose (wsV RX0 82 RX0 yX0_hasWanting wsX0_hasWanting) := goodIn_app (goodIn_of _ (by decide +kernel)) ggX0_canClose_X0_hasWanting
theorem dX0_canClose_0 : decode cX0_canClose 0 = .ok (.aload_n 0, 1) := by decide +kernel
theorem dX0_canClose_1 : decode cX0_canClose 1 = .ok (.iload_n 1, 1) := by decide +kernel
theorem dX0_canClose_2 : decode cX0_canClose 2 = .ok (.iload_n 2, 1) := by decide +kernel
theorem dX0_canClose_3 : decode cX0_canClose 3 = .ok (.invokevirtual 53, 3) := by decide +kernel
theorem dX0_canClose_6 : decode cX0_canClose 6 = .ok (.ifCond .eq 24, 3) := by decide +kernel
theorem dX0_canClose_9 : decode cX0_canClose 9 = .ok (.aload_n 0, 1) := by decide +kernel
theorem dX0_canClose_10 : decode cX0_canClose 10 = .ok (.iload_n 1, 1) := by decide +kernel
theorem dX0_canClose_11 : decode cX0_canClose 11 = .ok (.iload_n 2, 1) := by decide +kernel
theorem dX0_canClose_12 : decode cX0_canClose 12 = .ok (.invokevirtual 57, 3) := by decide +kernel
theorem dX0_canClose_15 : decode cX0_canClose 15 = .ok (.ifCond .ne 15, 3) := by decide +kernel
theorem dX0_canClose_18 : decode cX0_canClose 18 = .ok (.aload_n 0, 1) := by decide +kernel
theorem dX0_canClose_19 : decode cX0_canClose 19 = .ok (.iconst 2, 1) := by decide +kernel
theorem dX0_canClose_20 : decode cX0_canClose 20 = .ok (.iload_n 1, 1) := by decide +kernel
theorem dX0_canClose_21 : decode cX0_canClose 21 = .ok (.bipush 99, 2) := by decide +kernel
theorem dX0_canClose_23 : decode cX0_canClose 23 = .ok (.iload_n 2, 1) := by decide +kernel
theorem dX0_canClose_24 : decode cX0_canClose 24 = .ok (.invokevirtual 82, 3) := by decide +kernel
theorem dX0_canClose_27 : decode cX0_canClose 27 = .ok (.ifCond .eq 7, 3) := by decide +kernel
theorem dX0_canClose_30 : decode cX0_canClose 30 = .ok (.iconst 1, 1) := by decide +kernel
theorem dX0_canClose_31 : decode cX0_canClose 31 = .ok (.goto 4, 3) := by decide +kernel
theorem dX0_canClose_34 : decode cX0_canClose 34 = .ok (.iconst 0, 1) := by decide +kernel
theorem dX0_canClose_35 : decode cX0_canClose 35 = .ok (.ireturn, 1) := by decide +kernel
set_option maxRecDepth 20000 in
theorem ggX0_hasWanting_X0_isOpen : GoodIn wsX0_hasWanting wsX0_isOpen := goodIn_r _ [7, 8, 9, 10, 11, 12, 13, 25, 26, 27, 28, 29, 30, 31] (by decide +kernel) (by decide +kernel)
set_option maxRecDepth 20000 in
theorem gX0_hasWanting_X0_isOpen : GoodIn wsX0_hasWanting (wsV RX0 63 RX0 yX0_isOpen wsX0_isOpen) := goodIn_app (goodIn_of _ (by decide +kernel)) ggX0_hasWanting_X0_isOpen
set_option maxRecDepth 20000 in
theorem ggX0_hasWanting_X0_isEmpty : GoodIn wsX0_hasWanting wsX0_isEmpty := goodIn_r _ [17, 18, 19, 9, 10, 11, 25, 26, 27, 28, 29, 30, 31] (by decide +kernel) (by decide +kernel)
set_option maxRecDepth 20000 in
theorem gX0_hasWanting_X0_isEmpty : GoodIn wsX0_hasWanting (wsV RX0 66 RX0 yX0_isEmpty wsX0_isEmpty) := goodIn_app (goodIn_of _ (by decide +kernel)) ggX0_hasWanting_X0_isEmpty
set_option maxRecDepth 20000 in
theorem ggX0_hasWanting_X0_isFor : GoodIn wsX0_hasWanting wsX0_isFor := goodIn_r _ [23, 18, 24, 9, 10, 11, 25, 26, 27, 28, 29, 30, 31] (by decide +kernel) (by decide +kernel)
set_option maxRecDepth 20000 in
theorem gX0_hasWanting_X0_isFor : GoodIn wsX0_hasWanting (wsV RX0 60 RX0 yX0_isFor wsX0_isFor) := goodIn_app (goodIn_of _ (by decide +kernel)) ggX0_hasWanting_X0_isFor
set_option maxRecDepth 20000 in
theorem ggX0_hasWanting_X3_at : GoodIn wsX0_hasWanting wsX3_at := goodIn_r _ [11] (by decide +kernel) (by decide +kernel)
set_option maxRecDepth 20000 in
theorem gX0_hasWanting_X3_at_n34 : GoodIn wsX0_hasWanting (wsX3_at) := ggX0_hasWanting_X3_at
theorem dX0_hasWanting_0 : decode cX0_hasWanting 0 = .ok (.iconst 0, 1) := by decide +kernel
theorem dX0_hasWanting_1 : decode cX0_hasWanting 1 = .ok (.istore 5, 2) := by decide +kernel
theorem dX0_hasWanting_3 : decode cX0_hasWanting 3 = .ok (.iload 5, 2) := by decide +kernel
theorem dX0_hasWanting_5 : decode cX0_hasWanting 5 = .ok (.aload_n 0, 1) := by decide +kernel
theorem dX0_hasWanting_6 : decode cX0_hasWanting 6 = .ok (.getfield 30, 3) := by decide +kernel
theorem dX0_hasWanting_9 : decode cX0_hasWanting 9 = .ok (.if_icmp .ge 67, 3) := by decide +kernel
theorem dX0_hasWanting_12 : decode cX0_hasWanting 12 = .ok (.aload_n 0, 1) := by decide +kernel
theorem dX0_hasWanting_13 : decode cX0_hasWanting 13 = .ok (.iload 5, 2) := by decide +kernel
theorem dX0_hasWanting_15 : decode cX0_hasWanting 15 = .ok (.iload 4, 2) := by decide +kernel
theorem dX0_hasWanting_17 : decode cX0_hasWanting 17 = .ok (.invokevirtual 63, 3) := by decide +kernel
theorem dX0_hasWanting_20 : decode cX0_hasWanting 20 = .ok (.ifCond .eq 16, 3) := by decide +kernel
theorem dX0_hasWanting_23 : decode cX0_hasWanting 23 = .ok (.aload_n 0, 1) := by decide +kernel
theorem dX0_hasWanting_24 : decode cX0_hasWanting 24 = .ok (.iload 5, 2) := by decide +kernel
theorem dX0_hasWanting_26 : decode cX0_hasWanting 26 = .ok (.invokevirtual 66, 3) := by decide +kernel
theorem dX0_hasWanting_29 : decode cX0_hasWanting 29 = .ok (.ifCond .eq 7, 3) := by decide +kernel
theorem dX0_hasWanting_32 : decode cX0_hasWanting 32 = .ok (.iconst 1, 1) := by decide +kernel
theorem dX0_hasWanting_33 : decode cX0_hasWanting 33 = .ok (.goto 4, 3) := by decide +kernel
theorem dX0_hasWanting_36 : decode cX0_hasWanting 36 = .ok (.iconst 0, 1) := by decide +kernel
theorem dX0_hasWanting_37 : decode cX0_hasWanting 37 = .ok (.istore 6, 2) := by decide +kernel
theorem dX0_hasWanting_39 : decode cX0_hasWanting 39 = .ok (.aload_n 0, 1) := by decide +kernel
theorem dX0_hasWanting_40 : decode cX0_hasWanting 40 = .ok (.iload 5, 2) := by decide +kernel
theorem dX0_hasWanting_42 : decode cX0_hasWanting 42 = .ok (.iload_n 1, 1) := by decide +kernel
theorem dX0_hasWanting_43 : decode cX0_hasWanting 43 = .ok (.iload_n 2, 1) := by decide +kernel
theorem dX0_hasWanting_44 : decode cX0_hasWanting 44 = .ok (.invokevirtual 60, 3) := by decide +kernel
theorem dX0_hasWanting_47 : decode cX0_hasWanting 47 = .ok (.ifCond .eq 23, 3) := by decide +kernel
theorem dX0_hasWanting_50 : decode cX0_hasWanting 50 = .ok (.iload 6, 2) := by decide +kernel
theorem dX0_hasWanting_52 : decode cX0_hasWanting 52 = .ok (.ifCond .eq 18, 3) := by decide +kernel
theorem dX0_hasWanting_55 : decode cX0_hasWanting 55 = .ok (.aload_n 0, 1) := by decide +kernel
theorem dX0_hasWanting_56 : decode cX0_hasWanting 56 = .ok (.getfield 21, 3) := by decide +kernel
theorem dX0_hasWanting_59 : decode cX0_hasWanting 59 = .ok (.iload 5, 2) := by decide +kernel
theorem dX0_hasWanting_61 : decode cX0_hasWanting 61 = .ok (.invokestatic 34, 3) := by decide +kernel
theorem dX0_hasWanting_64 : decode cX0_hasWanting 64 = .ok (.iload_n 3, 1) := by decide +kernel
theorem dX0_hasWanting_65 : decode cX0_hasWanting 65 = .ok (.if_icmp .gt 5, 3) := by decide +kernel
theorem dX0_hasWanting_68 : decode cX0_hasWanting 68 = .ok (.iconst 1, 1) := by decide +kernel
theorem dX0_hasWanting_69 : decode cX0_hasWanting 69 = .ok (.ireturn, 1) := by decide +kernel
theorem dX0_hasWanting_70 : decode cX0_hasWanting 70 = .ok (.iinc 5 1, 3) := by decide +kernel
theorem dX0_hasWanting_73 : decode cX0_hasWanting 73 = .ok (.goto (-70), 3) := by decide +kernel
theorem dX0_hasWanting_76 : decode cX0_hasWanting 76 = .ok (.iconst 0, 1) := by decide +kernel
theorem dX0_hasWanting_77 : decode cX0_hasWanting 77 = .ok (.ireturn, 1) := by decide +kernel
set_option maxRecDepth 20000 in
theorem ggX0_canCarry_X3_at : GoodIn wsX0_canCarry wsX3_at := goodIn_r _ [4] (by decide +kernel) (by decide +kernel)
set_option maxRecDepth 20000 in
theorem gX0_canCarry_X3_at_n34 : GoodIn wsX0_canCarry (wsX3_at) := ggX0_canCarry_X3_at
set_option maxRecDepth 20000 in
theorem ggX0_canCarry_X3_isInMask : GoodIn wsX0_canCarry wsX3_isInMask := goodIn_r _ [6] (by decide +kernel) (by decide +kernel)
set_option maxRecDepth 20000 in
theorem gX0_canCarry_X3_isInMask_n70 : GoodIn wsX0_canCarry (wsX3_isInMask) := ggX0_canCarry_X3_isInMask
set_option maxRecDepth 20000 in
theorem ggX0_canCarry_X0_has : GoodIn wsX0_canCarry wsX0_has := goodIn_r _ [11, 12, 13, 14, 15, 16, 17, 18, 19] (by decide +kernel) (by decide +kernel)
set_option maxRecDepth 20000 in
theorem gX0_canCarry_X0_has : GoodIn wsX0_canCarry (wsV RX0 86 RX0 yX0_has wsX0_has) := goodIn_app (goodIn_of _ (by decide +kernel)) ggX0_canCarry_X0_has
theorem dX0_canCarry_0 : decode cX0_canCarry 0 = .ok (.iconst 0, 1) := by decide +kernel
theorem dX0_canCarry_1 : decode cX0_canCarry 1 = .ok (.istore_n 2, 1) := by decide +kernel
theorem dX0_canCarry_2 : decode cX0_canCarry 2 = .ok (.iload_n 2, 1) := by decide +kernel
theorem dX0_canCarry_3 : decode cX0_canCarry 3 = .ok (.bipush 16, 2) := by decide +kernel
theorem dX0_canCarry_5 : decode cX0_canCarry 5 = .ok (.if_icmp .ge 60, 3) := by decide +kernel
theorem dX0_canCarry_8 : decode cX0_canCarry 8 = .ok (.aload_n 0, 1) := by decide +kernel
theorem dX0_canCarry_9 : decode cX0_canCarry 9 = .ok (.getfield 9, 3) := by decide +kernel
theorem dX0_canCarry_12 : decode cX0_canCarry 12 = .ok (.iload_n 2, 1) := by decide +kernel
theorem dX0_canCarry_13 : decode cX0_canCarry 13 = .ok (.invokestatic 34, 3) := by decide +kernel
theorem dX0_canCarry_16 : decode cX0_canCarry 16 = .ok (.ifCond .eq 15, 3) := by decide +kernel
theorem dX0_canCarry_19 : decode cX0_canCarry 19 = .ok (.aload_n 0, 1) := by decide +kernel
theorem dX0_canCarry_20 : decode cX0_canCarry 20 = .ok (.getfield 9, 3) := by decide +kernel
theorem dX0_canCarry_23 : decode cX0_canCarry 23 = .ok (.iload_n 2, 1) := by decide +kernel
theorem dX0_canCarry_24 : decode cX0_canCarry 24 = .ok (.invokestatic 34, 3) := by decide +kernel
theorem dX0_canCarry_27 : decode cX0_canCarry 27 = .ok (.iconst 3, 1) := by decide +kernel
theorem dX0_canCarry_28 : decode cX0_canCarry 28 = .ok (.if_icmp .ne 7, 3) := by decide +kernel
theorem dX0_canCarry_31 : decode cX0_canCarry 31 = .ok (.iconst 1, 1) := by decide +kernel
theorem dX0_canCarry_32 : decode cX0_canCarry 32 = .ok (.goto 4, 3) := by decide +kernel
theorem dX0_canCarry_35 : decode cX0_canCarry 35 = .ok (.iconst 0, 1) := by decide +kernel
theorem dX0_canCarry_36 : decode cX0_canCarry 36 = .ok (.istore_n 3, 1) := by decide +kernel
theorem dX0_canCarry_37 : decode cX0_canCarry 37 = .ok (.iload_n 2, 1) := by decide +kernel
theorem dX0_canCarry_38 : decode cX0_canCarry 38 = .ok (.iload_n 1, 1) := by decide +kernel
theorem dX0_canCarry_39 : decode cX0_canCarry 39 = .ok (.invokestatic 70, 3) := by decide +kernel
theorem dX0_canCarry_42 : decode cX0_canCarry 42 = .ok (.ifCond .eq 17, 3) := by decide +kernel
theorem dX0_canCarry_45 : decode cX0_canCarry 45 = .ok (.aload_n 0, 1) := by decide +kernel
theorem dX0_canCarry_46 : decode cX0_canCarry 46 = .ok (.iload_n 2, 1) := by decide +kernel
theorem dX0_canCarry_47 : decode cX0_canCarry 47 = .ok (.invokevirtual 86, 3) := by decide +kernel
theorem dX0_canCarry_50 : decode cX0_canCarry 50 = .ok (.ifCond .eq 7, 3) := by decide +kernel
theorem dX0_canCarry_53 : decode cX0_canCarry 53 = .ok (.iload_n 3, 1) := by decide +kernel
theorem dX0_canCarry_54 : decode cX0_canCarry 54 = .ok (.ifCond .ne 5, 3) := by decide +kernel
theorem dX0_canCarry_57 : decode cX0_canCarry 57 = .ok (.iconst 0, 1) := by decide +kernel
theorem dX0_canCarry_58 : decode cX0_canCarry 58 = .ok (.ireturn, 1) := by decide +kernel
theorem dX0_canCarry_59 : decode cX0_canCarry 59 = .ok (.iinc 2 1, 3) := by decide +kernel
theorem dX0_canCarry_62 : decode cX0_canCarry 62 = .ok (.goto (-60), 3) := by decide +kernel
theorem dX0_canCarry_65 : decode cX0_canCarry 65 = .ok (.iconst 1, 1) := by decide +kernel
theorem dX0_canCarry_66 : decode cX0_canCarry 66 = .ok (.ireturn, 1) := by decide +kernel
set_option maxRecDepth 20000 in
theorem ggX0_lastTotal_X3_at : GoodIn wsX0_lastTotal wsX3_at := goodIn_r _ [5] (by decide +kernel) (by decide +kernel)
set_option maxRecDepth 20000 in
theorem gX0_lastTotal_X3_at_n34 : GoodIn wsX0_lastTotal (wsX3_at) := ggX0_lastTotal_X3_at
theorem dX0_lastTotal_0 : decode cX0_lastTotal 0 = .ok (.aload_n 0, 1) := by decide +kernel
theorem dX0_lastTotal_1 : decode cX0_lastTotal 1 = .ok (.getfield 30, 3) := by decide +kernel
theorem dX0_lastTotal_4 : decode cX0_lastTotal 4 = .ok (.iconst 1, 1) := by decide +kernel
theorem dX0_lastTotal_5 : decode cX0_lastTotal 5 = .ok (.isub, 1) := by decide +kernel
theorem dX0_lastTotal_6 : decode cX0_lastTotal 6 = .ok (.istore_n 1, 1) := by decide +kernel
theorem dX0_lastTotal_7 : decode cX0_lastTotal 7 = .ok (.iload_n 1, 1) := by decide +kernel
theorem dX0_lastTotal_8 : decode cX0_lastTotal 8 = .ok (.ifCond .lt 23, 3) := by decide +kernel
theorem dX0_lastTotal_11 : decode cX0_lastTotal 11 = .ok (.aload_n 0, 1) := by decide +kernel
theorem dX0_lastTotal_12 : decode cX0_lastTotal 12 = .ok (.getfield 9, 3) := by decide +kernel
theorem dX0_lastTotal_15 : decode cX0_lastTotal 15 = .ok (.iload_n 1, 1) := by decide +kernel
theorem dX0_lastTotal_16 : decode cX0_lastTotal 16 = .ok (.invokestatic 34, 3) := by decide +kernel
theorem dX0_lastTotal_19 : decode cX0_lastTotal 19 = .ok (.iconst 3, 1) := by decide +kernel
theorem dX0_lastTotal_20 : decode cX0_lastTotal 20 = .ok (.if_icmp .ne 5, 3) := by decide +kernel
theorem dX0_lastTotal_23 : decode cX0_lastTotal 23 = .ok (.iload_n 1, 1) := by decide +kernel
theorem dX0_lastTotal_24 : decode cX0_lastTotal 24 = .ok (.ireturn, 1) := by decide +kernel
theorem dX0_lastTotal_25 : decode cX0_lastTotal 25 = .ok (.iinc 1 (-1), 3) := by decide +kernel
theorem dX0_lastTotal_28 : decode cX0_lastTotal 28 = .ok (.goto (-21), 3) := by decide +kernel
theorem dX0_lastTotal_31 : decode cX0_lastTotal 31 = .ok (.iconst (-1), 1) := by decide +kernel
theorem dX0_lastTotal_32 : decode cX0_lastTotal 32 = .ok (.ireturn, 1) := by decide +kernel
set_option maxRecDepth 20000 in
theorem ggX0_valueOf_X3_at : GoodIn wsX0_valueOf wsX3_at := goodIn_r _ [6] (by decide +kernel) (by decide +kernel)
set_option maxRecDepth 20000 in
theorem gX0_valueOf_X3_at_n34 : GoodIn wsX0_valueOf (wsX3_at) := ggX0_valueOf_X3_at
set_option maxRecDepth 20000 in
theorem ggX0_valueOf_X0_sumOf : GoodIn wsX0_valueOf wsX0_sumOf := goodIn_r _ [11, 12, 2, 13, 14, 15, 16, 17, 4, 5, 6, 18, 19, 20, 21, 22, 10, 23, 24, 36, 37, 38, 39, 40, 41, 42] (by decide +kernel) (by decide +kernel)
set_option maxRecDepth 20000 in
theorem gX0_valueOf_X0_sumOf : GoodIn wsX0_valueOf (wsV RX0 89 RX0 yX0_sumOf wsX0_sumOf) := goodIn_app (goodIn_of _ (by decide +kernel)) ggX0_valueOf_X0_sumOf
set_option maxRecDepth 20000 in
theorem ggX0_valueOf_X0_ownValue : GoodIn wsX0_valueOf wsX0_ownValue := goodIn_r _ [28, 3, 29, 4, 5, 6, 30, 31, 32, 10, 33, 36, 37, 38, 39, 40, 41, 42] (by decide +kernel) (by decide +kernel)
set_option maxRecDepth 20000 in
theorem gX0_valueOf_X0_ownValue : GoodIn wsX0_valueOf (wsV RX0 93 RX0 yX0_ownValue wsX0_ownValue) := goodIn_app (goodIn_of _ (by decide +kernel)) ggX0_valueOf_X0_ownValue
