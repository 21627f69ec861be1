theorem wsL_law_x0 : ∀ w ∈ (vx_atS RX3 180 "java/lang/IndexOutOfBoundsException" ["java/lang/RuntimeException", "java/lang/Exception"]).filter goodWord, w ∈ lw_tbl := by decide +kernel
theorem wsL_law_x1 : ∀ w ∈ (vx_atS RX3 192 "java/lang/IllegalArgumentException" ["java/lang/RuntimeException", "java/lang/Exception"]).filter goodWord, w ∈ lw_tbl := by decide +kernel
theorem wsL_law_x2 : ∀ w ∈ (vx_atS RX3 197 "java/lang/IllegalStateException" ["java/lang/RuntimeException", "java/lang/Exception"]).filter goodWord, w ∈ lw_tbl := by decide +kernel
theorem wsL_law_in : ∀ w ∈ wsL_law, w ∈ lw_tbl := fun w h => (List.mem_append.mp h).elim (fun h => (List.mem_append.mp h).elim (fun h => (List.mem_append.mp h).elim (fun h => wsL_law_in0 w h) (fun h => wsL_law_x0 w h)) (fun h => wsL_law_x1 w h)) (fun h => wsL_law_x2 w h)
theorem inlX0 : ∀ w ∈ wsX00, w ∈ wsL_law := fun _ h => List.mem_append_left _ (List.mem_append_left _ (List.mem_append_left _ (List.mem_append_left _ (List.mem_append_left _ (List.mem_append_left _ (List.mem_append_right _ h))))))
theorem inX0 : ∀ w ∈ wsX00, w ∈ lw_tbl := fun w h => wsL_law_in w (inlX0 w h)
theorem inlX1 : ∀ w ∈ wsX10, w ∈ wsL_law := fun _ h => List.mem_append_left _ (List.mem_append_left _ (List.mem_append_left _ (List.mem_append_left _ (List.mem_append_left _ (List.mem_append_right _ h)))))
theorem inX1 : ∀ w ∈ wsX10, w ∈ lw_tbl := fun w h => wsL_law_in w (inlX1 w h)
theorem inlX2 : ∀ w ∈ wsX20, w ∈ wsL_law := fun _ h => List.mem_append_left _ (List.mem_append_left _ (List.mem_append_left _ (List.mem_append_left _ (List.mem_append_right _ h))))
theorem inX2 : ∀ w ∈ wsX20, w ∈ lw_tbl := fun w h => wsL_law_in w (inlX2 w h)
theorem inlX3 : ∀ w ∈ wsX30, w ∈ wsL_law := fun _ h => List.mem_append_left _ (List.mem_append_left _ (List.mem_append_left _ (List.mem_append_left _ (List.mem_append_left _ (List.mem_append_left _ (List.mem_append_left _ (List.mem_append_left _ (List.mem_append_right _ h))))))))
theorem inX3 : ∀ w ∈ wsX30, w ∈ lw_tbl := fun w h => wsL_law_in w (inlX3 w h)
theorem inlX4 : ∀ w ∈ wsX40, w ∈ wsL_law := fun _ h => List.mem_append_left _ (List.mem_append_left _ (List.mem_append_left _ (List.mem_append_left _ (List.mem_append_left _ (List.mem_append_left _ (List.mem_append_left _ (List.mem_append_right _ h)))))))
theorem inX4 : ∀ w ∈ wsX40, w ∈ lw_tbl := fun w h => wsL_law_in w (inlX4 w h)
theorem inJ6 : ∀ w ∈ wsJ60, w ∈ lw_tbl := by decide +kernel
theorem inJ9 : ∀ w ∈ wsJ90, w ∈ lw_tbl := by decide +kernel
theorem inJ0 : ∀ w ∈ wsJ00, w ∈ lw_tbl := by decide +kernel
theorem dX0_init_0 : decode cX0_init 0 = .ok (.aload_n 0, 1) := by decide +kernel
theorem dX0_init_1 : decode cX0_init 1 = .ok (.invokespecial 3, 3) := by decide +kernel
theorem dX0_init_4 : decode cX0_init 4 = .ok (.aload_n 0, 1) := by decide +kernel
theorem dX0_init_5 : decode cX0_init 5 = .ok (.bipush 16, 2) := by decide +kernel
theorem dX0_init_7 : decode cX0_init 7 = .ok (.newarray .int, 2) := by decide +kernel
theorem dX0_init_9 : decode cX0_init 9 = .ok (.putfield 9, 3) := by decide +kernel
theorem dX0_init_12 : decode cX0_init 12 = .ok (.aload_n 0, 1) := by decide +kernel
theorem dX0_init_13 : decode cX0_init 13 = .ok (.bipush 16, 2) := by decide +kernel
theorem dX0_init_15 : decode cX0_init 15 = .ok (.newarray .int, 2) := by decide +kernel
theorem dX0_init_17 : decode cX0_init 17 = .ok (.putfield 15, 3) := by decide +kernel
theorem dX0_init_20 : decode cX0_init 20 = .ok (.aload_n 0, 1) := by decide +kernel
theorem dX0_init_21 : decode cX0_init 21 = .ok (.bipush 16, 2) := by decide +kernel
theorem dX0_init_23 : decode cX0_init 23 = .ok (.newarray .int, 2) := by decide +kernel
theorem dX0_init_25 : decode cX0_init 25 = .ok (.putfield 18, 3) := by decide +kernel
theorem dX0_init_28 : decode cX0_init 28 = .ok (.aload_n 0, 1) := by decide +kernel
theorem dX0_init_29 : decode cX0_init 29 = .ok (.bipush 16, 2) := by decide +kernel
theorem dX0_init_31 : decode cX0_init 31 = .ok (.newarray .int, 2) := by decide +kernel
theorem dX0_init_33 : decode cX0_init 33 = .ok (.putfield 21, 3) := by decide +kernel
theorem dX0_init_36 : decode cX0_init 36 = .ok (.aload_n 0, 1) := by decide +kernel
theorem dX0_init_37 : decode cX0_init 37 = .ok (.bipush 16, 2) := by decide +kernel
theorem dX0_init_39 : decode cX0_init 39 = .ok (.newarray .int, 2) := by decide +kernel
theorem dX0_init_41 : decode cX0_init 41 = .ok (.putfield 24, 3) := by decide +kernel
theorem dX0_init_44 : decode cX0_init 44 = .ok (.aload_n 0, 1) := by decide +kernel
theorem dX0_init_45 : decode cX0_init 45 = .ok (.bipush 16, 2) := by decide +kernel
theorem dX0_init_47 : decode cX0_init 47 = .ok (.newarray .int, 2) := by decide +kernel
theorem dX0_init_49 : decode cX0_init 49 = .ok (.putfield 27, 3) := by decide +kernel
theorem dX0_init_52 : decode cX0_init 52 = .ok (.return_, 1) := by decide +kernel
theorem dX0_size_0 : decode cX0_size 0 = .ok (.aload_n 0, 1) := by decide +kernel
theorem dX0_size_1 : decode cX0_size 1 = .ok (.getfield 30, 3) := by decide +kernel
theorem dX0_size_4 : decode cX0_size 4 = .ok (.ireturn, 1) := by decide +kernel
theorem dX0_has_0 : decode cX0_has 0 = .ok (.iload_n 1, 1) := by decide +kernel
theorem dX0_has_1 : decode cX0_has 1 = .ok (.ifCond .lt 15, 3) := by decide +kernel
theorem dX0_has_4 : decode cX0_has 4 = .ok (.iload_n 1, 1) := by decide +kernel
theorem dX0_has_5 : decode cX0_has 5 = .ok (.aload_n 0, 1) := by decide +kernel
theorem dX0_has_6 : decode cX0_has 6 = .ok (.getfield 30, 3) := by decide +kernel
theorem dX0_has_9 : decode cX0_has 9 = .ok (.if_icmp .ge 7, 3) := by decide +kernel
theorem dX0_has_12 : decode cX0_has 12 = .ok (.iconst 1, 1) := by decide +kernel
theorem dX0_has_13 : decode cX0_has 13 = .ok (.goto 4, 3) := by decide +kernel
theorem dX0_has_16 : decode cX0_has 16 = .ok (.iconst 0, 1) := by decide +kernel
theorem dX0_has_17 : decode cX0_has 17 = .ok (.ireturn, 1) := by decide +kernel
set_option maxRecDepth 20000 in
theorem ggX0_kindOf_X3_at : GoodIn wsX0_kindOf wsX3_at := goodIn_r _ [4] (by decide +kernel) (by decide +kernel)
set_option maxRecDepth 20000 in
theorem gX0_kindOf_X3_at_n34 : GoodIn wsX0_kindOf (wsX3_at) := ggX0_kindOf_X3_at
theorem dX0_kindOf_0 : decode cX0_kindOf 0 = .ok (.aload_n 0, 1) := by decide +kernel
theorem dX0_kindOf_1 : decode cX0_kindOf 1 = .ok (.getfield 9, 3) := by decide +kernel
theorem dX0_kindOf_4 : decode cX0_kindOf 4 = .ok (.iload_n 1, 1) := by decide +kernel
theorem dX0_kindOf_5 : decode cX0_kindOf 5 = .ok (.invokestatic 34, 3) := by decide +kernel
theorem dX0_kindOf_8 : decode cX0_kindOf 8 = .ok (.ireturn, 1) := by decide +kernel
set_option maxRecDepth 20000 in
theorem ggX0_partOf_X3_at : GoodIn wsX0_partOf wsX3_at := goodIn_r _ [4] (by decide +kernel) (by decide +kernel)
set_option maxRecDepth 20000 in
theorem gX0_partOf_X3_at_n34 : GoodIn wsX0_partOf (wsX3_at) := ggX0_partOf_X3_at
theorem dX0_partOf_0 : decode cX0_partOf 0 = .ok (.aload_n 0, 1) := by decide +kernel
theorem dX0_partOf_1 : decode cX0_partOf 1 = .ok (.getfield 15, 3) := by decide +kernel
theorem dX0_partOf_4 : decode cX0_partOf 4 = .ok (.iload_n 1, 1) := by decide +kernel
theorem dX0_partOf_5 : decode cX0_partOf 5 = .ok (.invokestatic 34, 3) := by decide +kernel
theorem dX0_partOf_8 : decode cX0_partOf 8 = .ok (.ireturn, 1) := by decide +kernel
set_option maxRecDepth 20000 in
theorem ggX0_settingOf_X3_at : GoodIn wsX0_settingOf wsX3_at := goodIn_r _ [4] (by decide +kernel) (by decide +kernel)
set_option maxRecDepth 20000 in
theorem gX0_settingOf_X3_at_n34 : GoodIn wsX0_settingOf (wsX3_at) := ggX0_settingOf_X3_at
theorem dX0_settingOf_0 : decode cX0_settingOf 0 = .ok (.aload_n 0, 1) := by decide +kernel
theorem dX0_settingOf_1 : decode cX0_settingOf 1 = .ok (.getfield 18, 3) := by decide +kernel
theorem dX0_settingOf_4 : decode cX0_settingOf 4 = .ok (.iload_n 1, 1) := by decide +kernel
theorem dX0_settingOf_5 : decode cX0_settingOf 5 = .ok (.invokestatic 34, 3) := by decide +kernel
theorem dX0_settingOf_8 : decode cX0_settingOf 8 = .ok (.ireturn, 1) := by decide +kernel
set_option maxRecDepth 20000 in
theorem ggX0_limitOf_X3_at : GoodIn wsX0_limitOf wsX3_at := goodIn_r _ [4] (by decide +kernel) (by decide +kernel)
set_option maxRecDepth 20000 in
theorem gX0_limitOf_X3_at_n34 : GoodIn wsX0_limitOf (wsX3_at) := ggX0_limitOf_X3_at
theorem dX0_limitOf_0 : decode cX0_limitOf 0 = .ok (.aload_n 0, 1) := by decide +kernel
theorem dX0_limitOf_1 : decode cX0_limitOf 1 = .ok (.getfield 21, 3) := by decide +kernel
theorem dX0_limitOf_4 : decode cX0_limitOf 4 = .ok (.iload_n 1, 1) := by decide +kernel
theorem dX0_limitOf_5 : decode cX0_limitOf 5 = .ok (.invokestatic 34, 3) := by decide +kernel
theorem dX0_limitOf_8 : decode cX0_limitOf 8 = .ok (.ireturn, 1) := by decide +kernel
set_option maxRecDepth 20000 in
theorem ggX0_answerOf_X3_at : GoodIn wsX0_answerOf wsX3_at := goodIn_r _ [4] (by decide +kernel) (by decide +kernel)
set_option maxRecDepth 20000 in
theorem gX0_answerOf_X3_at_n34 : GoodIn wsX0_answerOf (wsX3_at) := ggX0_answerOf_X3_at
theorem dX0_answerOf_0 : decode cX0_answerOf 0 = .ok (.aload_n 0, 1) := by decide +kernel
theorem dX0_answerOf_1 : decode cX0_answerOf 1 = .ok (.getfield 24, 3) := by decide +kernel
theorem dX0_answerOf_4 : decode cX0_answerOf 4 = .ok (.iload_n 1, 1) := by decide +kernel
theorem dX0_answerOf_5 : decode cX0_answerOf 5 = .ok (.invokestatic 34, 3) := by decide +kernel
theorem dX0_answerOf_8 : decode cX0_answerOf 8 = .ok (.ireturn, 1) := by decide +kernel
set_option maxRecDepth 20000 in
theorem ggX0_add_X3_put : GoodIn wsX0_add wsX3_put := goodIn_r _ [9] (by decide +kernel) (by decide +kernel)
set_option maxRecDepth 20000 in
theorem gX0_add_X3_put_n38 : GoodIn wsX0_add (wsX3_put) := ggX0_add_X3_put
theorem dX0_add_0 : decode cX0_add 0 = .ok (.aload_n 0, 1) := by decide +kernel
theorem dX0_add_1 : decode cX0_add 1 = .ok (.getfield 9, 3) := by decide +kernel
theorem dX0_add_4 : decode cX0_add 4 = .ok (.aload_n 0, 1) := by decide +kernel
theorem dX0_add_5 : decode cX0_add 5 = .ok (.getfield 30, 3) := by decide +kernel
theorem dX0_add_8 : decode cX0_add 8 = .ok (.iload_n 1, 1) := by decide +kernel
theorem dX0_add_9 : decode cX0_add 9 = .ok (.invokestatic 38, 3) := by decide +kernel
theorem dX0_add_12 : decode cX0_add 12 = .ok (.aload_n 0, 1) := by decide +kernel
theorem dX0_add_13 : decode cX0_add 13 = .ok (.getfield 15, 3) := by decide +kernel
theorem dX0_add_16 : decode cX0_add 16 = .ok (.aload_n 0, 1) := by decide +kernel
theorem dX0_add_17 : decode cX0_add 17 = .ok (.getfield 30, 3) := by decide +kernel
theorem dX0_add_20 : decode cX0_add 20 = .ok (.iload_n 2, 1) := by decide +kernel
theorem dX0_add_21 : decode cX0_add 21 = .ok (.invokestatic 38, 3) := by decide +kernel
theorem dX0_add_24 : decode cX0_add 24 = .ok (.aload_n 0, 1) := by decide +kernel
theorem dX0_add_25 : decode cX0_add 25 = .ok (.getfield 18, 3) := by decide +kernel
theorem dX0_add_28 : decode cX0_add 28 = .ok (.aload_n 0, 1) := by decide +kernel
theorem dX0_add_29 : decode cX0_add 29 = .ok (.getfield 30, 3) := by decide +kernel
theorem dX0_add_32 : decode cX0_add 32 = .ok (.iload_n 3, 1) := by decide +kernel
theorem dX0_add_33 : decode cX0_add 33 = .ok (.invokestatic 38, 3) := by decide +kernel
theorem dX0_add_36 : decode cX0_add 36 = .ok (.aload_n 0, 1) := by decide +kernel
theorem dX0_add_37 : decode cX0_add 37 = .ok (.getfield 21, 3) := by decide +kernel
theorem dX0_add_40 : decode cX0_add 40 = .ok (.aload_n 0, 1) := by decide +kernel
theorem dX0_add_41 : decode cX0_add 41 = .ok (.getfield 30, 3) := by decide +kernel
theorem dX0_add_44 : decode cX0_add 44 = .ok (.iload 4, 2) := by decide +kernel
theorem dX0_add_46 : decode cX0_add 46 = .ok (.invokestatic 38, 3) := by decide +kernel
theorem dX0_add_49 : decode cX0_add 49 = .ok (.aload_n 0, 1) := by decide +kernel
theorem dX0_add_50 : decode cX0_add 50 = .ok (.getfield 24, 3) := by decide +kernel
theorem dX0_add_53 : decode cX0_add 53 = .ok (.aload_n 0, 1) := by decide +kernel
theorem dX0_add_54 : decode cX0_add 54 = .ok (.getfield 30, 3) := by decide +kernel
theorem dX0_add_57 : decode cX0_add 57 = .ok (.iconst (-1), 1) := by decide +kernel
theorem dX0_add_58 : decode cX0_add 58 = .ok (.invokestatic 38, 3) := by decide +kernel
theorem dX0_add_61 : decode cX0_add 61 = .ok (.aload_n 0, 1) := by decide +kernel
theorem dX0_add_62 : decode cX0_add 62 = .ok (.dup, 1) := by decide +kernel
theorem dX0_add_63 : decode cX0_add 63 = .ok (.getfield 30, 3) := by decide +kernel
theorem dX0_add_66 : decode cX0_add 66 = .ok (.iconst 1, 1) := by decide +kernel
theorem dX0_add_67 : decode cX0_add 67 = .ok (.iadd, 1) := by decide +kernel
theorem dX0_add_68 : decode cX0_add 68 = .ok (.putfield 30, 3) := by decide +kernel
theorem dX0_add_71 : decode cX0_add 71 = .ok (.return_, 1) := by decide +kernel
theorem dX0_removeLast_0 : decode cX0_removeLast 0 = .ok (.aload_n 0, 1) := by decide +kernel
theorem dX0_removeLast_1 : decode cX0_removeLast 1 = .ok (.dup, 1) := by decide +kernel
theorem dX0_removeLast_2 : decode cX0_removeLast 2 = .ok (.getfield 30, 3) := by decide +kernel
theorem dX0_removeLast_5 : decode cX0_removeLast 5 = .ok (.iconst 1, 1) := by decide +kernel
theorem dX0_removeLast_6 : decode cX0_removeLast 6 = .ok (.isub, 1) := by decide +kernel
theorem dX0_removeLast_7 : decode cX0_removeLast 7 = .ok (.putfield 30, 3) := by decide +kernel
theorem dX0_removeLast_10 : decode cX0_removeLast 10 = .ok (.return_, 1) := by decide +kernel
set_option maxRecDepth 20000 in
theorem ggX0_give_X3_put : GoodIn wsX0_give wsX3_put := goodIn_r _ [4] (by decide +kernel) (by decide +kernel)
set_option maxRecDepth 20000 in
theorem gX0_give_X3_put_n38 : GoodIn wsX0_give (wsX3_put) := ggX0_give_X3_put
theorem dX0_give_0 : decode cX0_give 0 = .ok (.aload_n 0, 1) := by decide +kernel
theorem dX0_give_1 : decode cX0_give 1 = .ok (.getfield 24, 3) := by decide +kernel
theorem dX0_give_4 : decode cX0_give 4 = .ok (.iload_n 1, 1) := by decide +kernel
theorem dX0_give_5 : decode cX0_give 5 = .ok (.iload_n 2, 1) := by decide +kernel
theorem dX0_give_6 : decode cX0_give 6 = .ok (.invokestatic 38, 3) := by decide +kernel
theorem dX0_give_9 : decode cX0_give 9 = .ok (.return_, 1) := by decide +kernel
set_option maxRecDepth 20000 in
theorem ggX0_copyFrom_X3_at : GoodIn wsX0_copyFrom wsX3_at := goodIn_r _ [9] (by decide +kernel) (by decide +kernel)
set_option maxRecDepth 20000 in
theorem gX0_copyFrom_X3_at_n34 : GoodIn wsX0_copyFrom (wsX3_at) := ggX0_copyFrom_X3_at
set_option maxRecDepth 20000 in
theorem ggX0_copyFrom_X3_put : GoodIn wsX0_copyFrom wsX3_put := goodIn_r _ [11] (by decide +kernel) (by decide +kernel)
set_option maxRecDepth 20000 in
theorem gX0_copyFrom_X3_put_n38 : GoodIn wsX0_copyFrom (wsX3_put) := ggX0_copyFrom_X3_put
theorem dX0_copyFrom_0 : decode cX0_copyFrom 0 = .ok (.iconst 0, 1) := by decide +kernel
theorem dX0_copyFrom_1 : decode cX0_copyFrom 1 = .ok (.istore_n 2, 1) := by decide +kernel
theorem dX0_copyFrom_2 : decode cX0_copyFrom 2 = .ok (.iload_n 2, 1) := by decide +kernel
theorem dX0_copyFrom_3 : decode cX0_copyFrom 3 = .ok (.aload_n 1, 1) := by decide +kernel
theorem dX0_copyFrom_4 : decode cX0_copyFrom 4 = .ok (.getfield 30, 3) := by decide +kernel
theorem dX0_copyFrom_7 : decode cX0_copyFrom 7 = .ok (.if_icmp .ge 89, 3) := by decide +kernel
theorem dX0_copyFrom_10 : decode cX0_copyFrom 10 = .ok (.aload_n 0, 1) := by decide +kernel
theorem dX0_copyFrom_11 : decode cX0_copyFrom 11 = .ok (.getfield 9, 3) := by decide +kernel
theorem dX0_copyFrom_14 : decode cX0_copyFrom 14 = .ok (.iload_n 2, 1) := by decide +kernel
theorem dX0_copyFrom_15 : decode cX0_copyFrom 15 = .ok (.aload_n 1, 1) := by decide +kernel
theorem dX0_copyFrom_16 : decode cX0_copyFrom 16 = .ok (.getfield 9, 3) := by decide +kernel
theorem dX0_copyFrom_19 : decode cX0_copyFrom 19 = .ok (.iload_n 2, 1) := by decide +kernel
theorem dX0_copyFrom_20 : decode cX0_copyFrom 20 = .ok (.invokestatic 34, 3) := by decide +kernel
theorem dX0_copyFrom_23 : decode cX0_copyFrom 23 = .ok (.invokestatic 38, 3) := by decide +kernel
theorem dX0_copyFrom_26 : decode cX0_copyFrom 26 = .ok (.aload_n 0, 1) := by decide +kernel
theorem dX0_copyFrom_27 : decode cX0_copyFrom 27 = .ok (.getfield 15, 3) := by decide +kernel
theorem dX0_copyFrom_30 : decode cX0_copyFrom 30 = .ok (.iload_n 2, 1) := by decide +kernel
theorem dX0_copyFrom_31 : decode cX0_copyFrom 31 = .ok (.aload_n 1, 1) := by decide +kernel
theorem dX0_copyFrom_32 : decode cX0_copyFrom 32 = .ok (.getfield 15, 3) := by decide +kernel
theorem dX0_copyFrom_35 : decode cX0_copyFrom 35 = .ok (.iload_n 2, 1) := by decide +kernel
theorem dX0_copyFrom_36 : decode cX0_copyFrom 36 = .ok (.invokestatic 34, 3) := by decide +kernel
theorem dX0_copyFrom_39 : decode cX0_copyFrom 39 = .ok (.invokestatic 38, 3) := by decide +kernel
theorem dX0_copyFrom_42 : decode cX0_copyFrom 42 = .ok (.aload_n 0, 1) := by decide +kernel
theorem dX0_copyFrom_43 : decode cX0_copyFrom 43 = .ok (.getfield 18, 3) := by decide +kernel
theorem dX0_copyFrom_46 : decode cX0_copyFrom 46 = .ok (.iload_n 2, 1) := by decide +kernel
theorem dX0_copyFrom_47 : decode cX0_copyFrom 47 = .ok (.aload_n 1, 1) := by decide +kernel
theorem dX0_copyFrom_48 : decode cX0_copyFrom 48 = .ok (.getfield 18, 3) := by decide +kernel
theorem dX0_copyFrom_51 : decode cX0_copyFrom 51 = .ok (.iload_n 2, 1) := by decide +kernel
theorem dX0_copyFrom_52 : decode cX0_copyFrom 52 = .ok (.invokestatic 34, 3) := by decide +kernel
theorem dX0_copyFrom_55 : decode cX0_copyFrom 55 = .ok (.invokestatic 38, 3) := by decide +kernel
theorem dX0_copyFrom_58 : decode cX0_copyFrom 58 = .ok (.aload_n 0, 1) := by decide +kernel
theorem dX0_copyFrom_59 : decode cX0_copyFrom 59 = .ok (.getfield 21, 3) := by decide +kernel
theorem dX0_copyFrom_62 : decode cX0_copyFrom 62 = .ok (.iload_n 2, 1) := by decide +kernel
theorem dX0_copyFrom_63 : decode cX0_copyFrom 63 = .ok (.aload_n 1, 1) := by decide +kernel
theorem dX0_copyFrom_64 : decode cX0_copyFrom 64 = .ok (.getfield 21, 3) := by decide +kernel
theorem dX0_copyFrom_67 : decode cX0_copyFrom 67 = .ok (.iload_n 2, 1) := by decide +kernel
theorem dX0_copyFrom_68 : decode cX0_copyFrom 68 = .ok (.invokestatic 34, 3) := by decide +kernel
theorem dX0_copyFrom_71 : decode cX0_copyFrom 71 = .ok (.invokestatic 38, 3) := by decide +kernel
theorem dX0_copyFrom_74 : decode cX0_copyFrom 74 = .ok (.aload_n 0, 1) := by decide +kernel
theorem dX0_copyFrom_75 : decode cX0_copyFrom 75 = .ok (.getfield 24, 3) := by decide +kernel
theorem dX0_copyFrom_78 : decode cX0_copyFrom 78 = .ok (.iload_n 2, 1) := by decide +kernel
theorem dX0_copyFrom_79 : decode cX0_copyFrom 79 = .ok (.aload_n 1, 1) := by decide +kernel
theorem dX0_copyFrom_80 : decode cX0_copyFrom 80 = .ok (.getfield 24, 3) := by decide +kernel
theorem dX0_copyFrom_83 : decode cX0_copyFrom 83 = .ok (.iload_n 2, 1) := by decide +kernel
theorem dX0_copyFrom_84 : decode cX0_copyFrom 84 = .ok (.invokestatic 34, 3) := by decide +kernel
theorem dX0_copyFrom_87 : decode cX0_copyFrom 87 = .ok (.invokestatic 38, 3) := by decide +kernel
theorem dX0_copyFrom_90 : decode cX0_copyFrom 90 = .ok (.iinc 2 1, 3) := by decide +kernel
theorem dX0_copyFrom_93 : decode cX0_copyFrom 93 = .ok (.goto (-91), 3) := by decide +kernel
theorem dX0_copyFrom_96 : decode cX0_copyFrom 96 = .ok (.aload_n 0, 1) := by decide +kernel
theorem dX0_copyFrom_97 : decode cX0_copyFrom 97 = .ok (.aload_n 1, 1) := by decide +kernel
theorem dX0_copyFrom_98 : decode cX0_copyFrom 98 = .ok (.getfield 30, 3) := by decide +kernel
theorem dX0_copyFrom_101 : decode cX0_copyFrom 101 = .ok (.putfield 30, 3) := by decide +kernel
theorem dX0_copyFrom_104 : decode cX0_copyFrom 104 = .ok (.return_, 1) := by decide +kernel
set_option maxRecDepth 20000 in
theorem ggX0_isFor_X3_at : GoodIn wsX0_isFor wsX3_at := goodIn_r _ [5] (by decide +kernel) (by decide +kernel)
set_option maxRecDepth 20000 in
theorem gX0_isFor_X3_at_n34 : GoodIn wsX0_isFor (wsX3_at) := ggX0_isFor_X3_at
theorem dX0_isFor_0 : decode cX0_isFor 0 = .ok (.aload_n 0, 1) := by decide +kernel
theorem dX0_isFor_1 : decode cX0_isFor 1 = .ok (.getfield 9, 3) := by decide +kernel
theorem dX0_isFor_4 : decode cX0_isFor 4 = .ok (.iload_n 1, 1) := by decide +kernel
theorem dX0_isFor_5 : decode cX0_isFor 5 = .ok (.invokestatic 34, 3) := by decide +kernel
theorem dX0_isFor_8 : decode cX0_isFor 8 = .ok (.iload_n 2, 1) := by decide +kernel
theorem dX0_isFor_9 : decode cX0_isFor 9 = .ok (.if_icmp .ne 19, 3) := by decide +kernel
theorem dX0_isFor_12 : decode cX0_isFor 12 = .ok (.aload_n 0, 1) := by decide +kernel
theorem dX0_isFor_13 : decode cX0_isFor 13 = .ok (.getfield 18, 3) := by decide +kernel
theorem dX0_isFor_16 : decode cX0_isFor 16 = .ok (.iload_n 1, 1) := by decide +kernel
theorem dX0_isFor_17 : decode cX0_isFor 17 = .ok (.invokestatic 34, 3) := by decide +kernel
theorem dX0_isFor_20 : decode cX0_isFor 20 = .ok (.iload_n 3, 1) := by decide +kernel
theorem dX0_isFor_21 : decode cX0_isFor 21 = .ok (.if_icmp .ne 7, 3) := by decide +kernel
theorem dX0_isFor_24 : decode cX0_isFor 24 = .ok (.iconst 1, 1) := by decide +kernel
theorem dX0_isFor_25 : decode cX0_isFor 25 = .ok (.goto 4, 3) := by decide +kernel
theorem dX0_isFor_28 : decode cX0_isFor 28 = .ok (.iconst 0, 1) := by decide +kernel
theorem dX0_isFor_29 : decode cX0_isFor 29 = .ok (.ireturn, 1) := by decide +kernel
set_option maxRecDepth 20000 in
theorem ggX0_isEmpty_X3_at : GoodIn wsX0_isEmpty wsX3_at := goodIn_r _ [5] (by decide +kernel) (by decide +kernel)
set_option maxRecDepth 20000 in
theorem gX0_isEmpty_X3_at_n34 : GoodIn wsX0_isEmpty (wsX3_at) := ggX0_isEmpty_X3_at
theorem dX0_isEmpty_0 : decode cX0_isEmpty 0 = .ok (.aload_n 0, 1) := by decide +kernel
theorem dX0_isEmpty_1 : decode cX0_isEmpty 1 = .ok (.getfield 9, 3) := by decide +kernel
theorem dX0_isEmpty_4 : decode cX0_isEmpty 4 = .ok (.iload_n 1, 1) := by decide +kernel
theorem dX0_isEmpty_5 : decode cX0_isEmpty 5 = .ok (.invokestatic 34, 3) := by decide +kernel
theorem dX0_isEmpty_8 : decode cX0_isEmpty 8 = .ok (.iconst 3, 1) := by decide +kernel
theorem dX0_isEmpty_9 : decode cX0_isEmpty 9 = .ok (.if_icmp .eq 19, 3) := by decide +kernel
theorem dX0_isEmpty_12 : decode cX0_isEmpty 12 = .ok (.aload_n 0, 1) := by decide +kernel
theorem dX0_isEmpty_13 : decode cX0_isEmpty 13 = .ok (.getfield 24, 3) := by decide +kernel
theorem dX0_isEmpty_16 : decode cX0_isEmpty 16 = .ok (.iload_n 1, 1) := by decide +kernel
theorem dX0_isEmpty_17 : decode cX0_isEmpty 17 = .ok (.invokestatic 34, 3) := by decide +kernel
theorem dX0_isEmpty_20 : decode cX0_isEmpty 20 = .ok (.iconst (-1), 1) := by decide +kernel
theorem dX0_isEmpty_21 : decode cX0_isEmpty 21 = .ok (.if_icmp .ne 7, 3) := by decide +kernel
theorem dX0_isEmpty_24 : decode cX0_isEmpty 24 = .ok (.iconst 1, 1) := by decide +kernel
theorem dX0_isEmpty_25 : decode cX0_isEmpty 25 = .ok (.goto 4, 3) := by decide +kernel
theorem dX0_isEmpty_28 : decode cX0_isEmpty 28 = .ok (.iconst 0, 1) := by decide +kernel
theorem dX0_isEmpty_29 : decode cX0_isEmpty 29 = .ok (.ireturn, 1) := by decide +kernel
set_option maxRecDepth 20000 in
theorem ggX0_fits_X0_mostAnswer : GoodIn wsX0_fits wsX0_mostAnswer := goodIn_r _ [5, 6, 7, 8, 9, 10, 11, 12, 4, 13, 16, 17, 18, 19, 20, 21, 22] (by decide +kernel) (by decide +kernel)
set_option maxRecDepth 20000 in
theorem gX0_fits_X0_mostAnswer : GoodIn wsX0_fits (wsV RX0 42 RX0 yX0_mostAnswer wsX0_mostAnswer) := goodIn_app (goodIn_of _ (by decide +kernel)) ggX0_fits_X0_mostAnswer
set_option maxRecDepth 20000 in
theorem ggX0_fits_X3_isWithin : GoodIn wsX0_fits wsX3_isWithin := goodIn_r _ [15] (by decide +kernel) (by decide +kernel)
set_option maxRecDepth 20000 in
theorem gX0_fits_X3_isWithin_n46 : GoodIn wsX0_fits (wsX3_isWithin) := ggX0_fits_X3_isWithin
theorem dX0_fits_0 : decode cX0_fits 0 = .ok (.iload_n 2, 1) := by decide +kernel
theorem dX0_fits_1 : decode cX0_fits 1 = .ok (.iconst (-1), 1) := by decide +kernel
theorem dX0_fits_2 : decode cX0_fits 2 = .ok (.if_icmp .eq 16, 3) := by decide +kernel
theorem dX0_fits_5 : decode cX0_fits 5 = .ok (.iload_n 2, 1) := by decide +kernel
theorem dX0_fits_6 : decode cX0_fits 6 = .ok (.iconst 0, 1) := by decide +kernel
theorem dX0_fits_7 : decode cX0_fits 7 = .ok (.aload_n 0, 1) := by decide +kernel
theorem dX0_fits_8 : decode cX0_fits 8 = .ok (.iload_n 1, 1) := by decide +kernel
theorem dX0_fits_9 : decode cX0_fits 9 = .ok (.invokevirtual 42, 3) := by decide +kernel
theorem dX0_fits_12 : decode cX0_fits 12 = .ok (.invokestatic 46, 3) := by decide +kernel
theorem dX0_fits_15 : decode cX0_fits 15 = .ok (.ifCond .eq 7, 3) := by decide +kernel
theorem dX0_fits_18 : decode cX0_fits 18 = .ok (.iconst 1, 1) := by decide +kernel
theorem dX0_fits_19 : decode cX0_fits 19 = .ok (.goto 4, 3) := by decide +kernel
theorem dX0_fits_22 : decode cX0_fits 22 = .ok (.iconst 0, 1) := by decide +kernel
theorem dX0_fits_23 : decode cX0_fits 23 = .ok (.ireturn, 1) := by decide +kernel
set_option maxRecDepth 20000 in
theorem ggX0_mostAnswer_X3_at : GoodIn wsX0_mostAnswer wsX3_at := goodIn_r _ [5] (by decide +kernel) (by decide +kernel)
set_option maxRecDepth 20000 in
theorem gX0_mostAnswer_X3_at_n34 : GoodIn wsX0_mostAnswer (wsX3_at) := ggX0_mostAnswer_X3_at
set_option maxRecDepth 20000 in
theorem ggX0_mostAnswer_X0_mostWithTeeth : GoodIn wsX0_mostAnswer wsX0_mostWithTeeth := goodIn_r _ [9] (by decide +kernel) (by decide +kernel)
set_option maxRecDepth 20000 in
theorem gX0_mostAnswer_X0_mostWithTeeth : GoodIn wsX0_mostAnswer (va_wsS RX0 50 yX0_mostWithTeeth wsX0_mostWithTeeth) := goodIn_app (goodIn_of _ (by decide +kernel)) ggX0_mostAnswer_X0_mostWithTeeth
theorem dX0_mostAnswer_0 : decode cX0_mostAnswer 0 = .ok (.aload_n 0, 1) := by decide +kernel
theorem dX0_mostAnswer_1 : decode cX0_mostAnswer 1 = .ok (.getfield 9, 3) := by decide +kernel
theorem dX0_mostAnswer_4 : decode cX0_mostAnswer 4 = .ok (.iload_n 1, 1) := by decide +kernel
theorem dX0_mostAnswer_5 : decode cX0_mostAnswer 5 = .ok (.invokestatic 34, 3) := by decide +kernel
theorem dX0_mostAnswer_8 : decode cX0_mostAnswer 8 = .ok (.tableswitch 45 0 2 #[28, 40, 42], 28) := by decide +kernel
theorem dX0_mostAnswer_36 : decode cX0_mostAnswer 36 = .ok (.aload_n 0, 1) := by decide +kernel
theorem dX0_mostAnswer_37 : decode cX0_mostAnswer 37 = .ok (.getfield 18, 3) := by decide +kernel
theorem dX0_mostAnswer_40 : decode cX0_mostAnswer 40 = .ok (.iload_n 1, 1) := by decide +kernel
theorem dX0_mostAnswer_41 : decode cX0_mostAnswer 41 = .ok (.invokestatic 34, 3) := by decide +kernel
theorem dX0_mostAnswer_44 : decode cX0_mostAnswer 44 = .ok (.invokestatic 50, 3) := by decide +kernel
theorem dX0_mostAnswer_47 : decode cX0_mostAnswer 47 = .ok (.ireturn, 1) := by decide +kernel
theorem dX0_mostAnswer_48 : decode cX0_mostAnswer 48 = .ok (.iconst 1, 1) := by decide +kernel
theorem dX0_mostAnswer_49 : decode cX0_mostAnswer 49 = .ok (.ireturn, 1) := by decide +kernel
theorem dX0_mostAnswer_50 : decode cX0_mostAnswer 50 = .ok (.bipush 99, 2) := by decide +kernel
theorem dX0_mostAnswer_52 : decode cX0_mostAnswer 52 = .ok (.ireturn, 1) := by decide +kernel
theorem dX0_mostAnswer_53 : decode cX0_mostAnswer 53 = .ok (.iconst (-1), 1) := by decide +kernel
theorem dX0_mostAnswer_54 : decode cX0_mostAnswer 54 = .ok (.ireturn, 1) := by decide +kernel
theorem dX0_mostWithTeeth_0 : decode cX0_mostWithTeeth 0 = .ok (.iconst 0, 1) := by decide +kernel
theorem dX0_mostWithTeeth_1 : decode cX0_mostWithTeeth 1 = .ok (.istore_n 1, 1) := by decide +kernel
theorem dX0_mostWithTeeth_2 : decode cX0_mostWithTeeth 2 = .ok (.iconst 0, 1) := by decide +kernel
theorem dX0_mostWithTeeth_3 : decode cX0_mostWithTeeth 3 = .ok (.istore_n 2, 1) := by decide +kernel
theorem dX0_mostWithTeeth_4 : decode cX0_mostWithTeeth 4 = .ok (.iload_n 2, 1) := by decide +kernel
theorem dX0_mostWithTeeth_5 : decode cX0_mostWithTeeth 5 = .ok (.iload_n 0, 1) := by decide +kernel
theorem dX0_mostWithTeeth_6 : decode cX0_mostWithTeeth 6 = .ok (.if_icmp .ge 22, 3) := by decide +kernel
theorem dX0_mostWithTeeth_9 : decode cX0_mostWithTeeth 9 = .ok (.iload_n 2, 1) := by decide +kernel
theorem dX0_mostWithTeeth_10 : decode cX0_mostWithTeeth 10 = .ok (.iconst 5, 1) := by decide +kernel
theorem dX0_mostWithTeeth_11 : decode cX0_mostWithTeeth 11 = .ok (.if_icmp .ge 17, 3) := by decide +kernel
theorem dX0_mostWithTeeth_14 : decode cX0_mostWithTeeth 14 = .ok (.iload_n 1, 1) := by decide +kernel
theorem dX0_mostWithTeeth_15 : decode cX0_mostWithTeeth 15 = .ok (.bipush 10, 2) := by decide +kernel
theorem dX0_mostWithTeeth_17 : decode cX0_mostWithTeeth 17 = .ok (.imul, 1) := by decide +kernel
theorem dX0_mostWithTeeth_18 : decode cX0_mostWithTeeth 18 = .ok (.bipush 9, 2) := by decide +kernel
theorem dX0_mostWithTeeth_20 : decode cX0_mostWithTeeth 20 = .ok (.iadd, 1) := by decide +kernel
theorem dX0_mostWithTeeth_21 : decode cX0_mostWithTeeth 21 = .ok (.istore_n 1, 1) := by decide +kernel
theorem dX0_mostWithTeeth_22 : decode cX0_mostWithTeeth 22 = .ok (.iinc 2 1, 3) := by decide +kernel
theorem dX0_mostWithTeeth_25 : decode cX0_mostWithTeeth 25 = .ok (.goto (-21), 3) := by decide +kernel
theorem dX0_mostWithTeeth_28 : decode cX0_mostWithTeeth 28 = .ok (.iload_n 1, 1) := by decide +kernel
theorem dX0_mostWithTeeth_29 : decode cX0_mostWithTeeth 29 = .ok (.ireturn, 1) := by decide +kernel
set_option maxRecDepth 20000 in
theorem ggX0_answered_X3_at : GoodIn wsX0_answered wsX3_at := goodIn_r _ [5] (by decide +kernel) (by decide +kernel)
set_option maxRecDepth 20000 in
theorem gX0_answered_X3_at_n34 : GoodIn wsX0_answered (wsX3_at) := ggX0_answered_X3_at
theorem dX0_answered_0 : decode cX0_answered 0 = .ok (.iconst 0, 1) := by decide +kernel
theorem dX0_answered_1 : decode cX0_answered 1 = .ok (.istore_n 1, 1) := by decide +kernel
theorem dX0_answered_2 : decode cX0_answered 2 = .ok (.iconst 0, 1) := by decide +kernel
theorem dX0_answered_3 : decode cX0_answered 3 = .ok (.istore_n 2, 1) := by decide +kernel
theorem dX0_answered_4 : decode cX0_answered 4 = .ok (.iload_n 2, 1) := by decide +kernel
theorem dX0_answered_5 : decode cX0_answered 5 = .ok (.aload_n 0, 1) := by decide +kernel
theorem dX0_answered_6 : decode cX0_answered 6 = .ok (.getfield 30, 3) := by decide +kernel
theorem dX0_answered_9 : decode cX0_answered 9 = .ok (.if_icmp .ge 24, 3) := by decide +kernel
theorem dX0_answered_12 : decode cX0_answered 12 = .ok (.aload_n 0, 1) := by decide +kernel
theorem dX0_answered_13 : decode cX0_answered 13 = .ok (.getfield 24, 3) := by decide +kernel
theorem dX0_answered_16 : decode cX0_answered 16 = .ok (.iload_n 2, 1) := by decide +kernel
theorem dX0_answered_17 : decode cX0_answered 17 = .ok (.invokestatic 34, 3) := by decide +kernel
theorem dX0_answered_20 : decode cX0_answered 20 = .ok (.iconst (-1), 1) := by decide +kernel
theorem dX0_answered_21 : decode cX0_answered 21 = .ok (.if_icmp .eq 6, 3) := by decide +kernel
theorem dX0_answered_24 : decode cX0_answered 24 = .ok (.iinc 1 1, 3) := by decide +kernel
theorem dX0_answered_27 : decode cX0_answered 27 = .ok (.iinc 2 1, 3) := by decide +kernel
theorem dX0_answered_30 : decode cX0_answered 30 = .ok (.goto (-26), 3) := by decide +kernel
theorem dX0_answered_33 : decode cX0_answered 33 = .ok (.iload_n 1, 1) := by decide +kernel
theorem dX0_answered_34 : decode cX0_answered 34 = .ok (.ireturn, 1) := by decide +kernel
set_option maxRecDepth 20000 in
theorem ggX0_openParts_X0_isTicked : GoodIn wsX0_openParts wsX0_isTicked := goodIn_r _ [5, 6, 7, 8, 9, 10, 4, 11, 12, 13, 14, 15, 16, 17, 18, 19, 20, 21, 22, 23, 33, 34, 35, 36, 37, 38, 39] (by decide +kernel) (by decide +kernel)
set_option maxRecDepth 20000 in
theorem gX0_openParts_X0_isTicked : GoodIn wsX0_openParts (wsV RX0 53 RX0 yX0_isTicked wsX0_isTicked) := goodIn_app (goodIn_of _ (by decide +kernel)) ggX0_openParts_X0_isTicked
set_option maxRecDepth 20000 in
theorem ggX0_openParts_X0_isSkipped : GoodIn wsX0_openParts wsX0_isSkipped := goodIn_r _ [27, 6, 7, 28, 29, 30, 31, 4, 32, 12, 14, 15, 16, 8, 9, 10, 11, 13, 17, 18, 19, 20, 21, 22, 23, 33, 34, 35, 36, 37, 38, 39] (by decide +kernel) (by decide +kernel)
set_option maxRecDepth 20000 in
theorem gX0_openParts_X0_isSkipped : GoodIn wsX0_openParts (wsV RX0 57 RX0 yX0_isSkipped wsX0_isSkipped) := goodIn_app (goodIn_of _ (by decide +kernel)) ggX0_openParts_X0_isSkipped
theorem dX0_openParts_0 : decode cX0_openParts 0 = .ok (.iconst 1, 1) := by decide +kernel
theorem dX0_openParts_1 : decode cX0_openParts 1 = .ok (.istore_n 1, 1) := by decide +kernel
theorem dX0_openParts_2 : decode cX0_openParts 2 = .ok (.iconst 1, 1) := by decide +kernel
theorem dX0_openParts_3 : decode cX0_openParts 3 = .ok (.istore_n 2, 1) := by decide +kernel
theorem dX0_openParts_4 : decode cX0_openParts 4 = .ok (.iload_n 2, 1) := by decide +kernel
theorem dX0_openParts_5 : decode cX0_openParts 5 = .ok (.iconst 5, 1) := by decide +kernel
theorem dX0_openParts_6 : decode cX0_openParts 6 = .ok (.if_icmp .ge 33, 3) := by decide +kernel
theorem dX0_openParts_9 : decode cX0_openParts 9 = .ok (.aload_n 0, 1) := by decide +kernel
theorem dX0_openParts_10 : decode cX0_openParts 10 = .ok (.iload_n 2, 1) := by decide +kernel
theorem dX0_openParts_11 : decode cX0_openParts 11 = .ok (.iload_n 1, 1) := by decide +kernel
theorem dX0_openParts_12 : decode cX0_openParts 12 = .ok (.invokevirtual 53, 3) := by decide +kernel
theorem dX0_openParts_15 : decode cX0_openParts 15 = .ok (.ifCond .eq 18, 3) := by decide +kernel
theorem dX0_openParts_18 : decode cX0_openParts 18 = .ok (.aload_n 0, 1) := by decide +kernel
theorem dX0_openParts_19 : decode cX0_openParts 19 = .ok (.iload_n 2, 1) := by decide +kernel
theorem dX0_openParts_20 : decode cX0_openParts 20 = .ok (.iload_n 1, 1) := by decide +kernel
theorem dX0_openParts_21 : decode cX0_openParts 21 = .ok (.invokevirtual 57, 3) := by decide +kernel
theorem dX0_openParts_24 : decode cX0_openParts 24 = .ok (.ifCond .ne 9, 3) := by decide +kernel
theorem dX0_openParts_27 : decode cX0_openParts 27 = .ok (.iload_n 1, 1) := by decide +kernel
theorem dX0_openParts_28 : decode cX0_openParts 28 = .ok (.iconst 1, 1) := by decide +kernel
theorem dX0_openParts_29 : decode cX0_openParts 29 = .ok (.iload_n 2, 1) := by decide +kernel
theorem dX0_openParts_30 : decode cX0_openParts 30 = .ok (.ishl, 1) := by decide +kernel
theorem dX0_openParts_31 : decode cX0_openParts 31 = .ok (.ior, 1) := by decide +kernel
theorem dX0_openParts_32 : decode cX0_openParts 32 = .ok (.istore_n 1, 1) := by decide +kernel
theorem dX0_openParts_33 : decode cX0_openParts 33 = .ok (.iinc 2 1, 3) := by decide +kernel
theorem dX0_openParts_36 : decode cX0_openParts 36 = .ok (.goto (-32), 3) := by decide +kernel
theorem dX0_openParts_39 : decode cX0_openParts 39 = .ok (.iload_n 1, 1) := by decide +kernel
theorem dX0_openParts_40 : decode cX0_openParts 40 = .ok (.ireturn, 1) := by decide +kernel
set_option maxRecDepth 20000 in
theorem ggX0_isTicked_X0_isFor : GoodIn wsX0_isTicked wsX0_isFor := goodIn_r _ [7, 8, 9, 10, 11, 12, 20, 21, 22, 23, 24, 25, 26] (by decide +kernel) (by decide +kernel)
set_option maxRecDepth 20000 in
theorem gX0_isTicked_X0_isFor : GoodIn wsX0_isTicked (wsV RX0 60 RX0 yX0_isFor wsX0_isFor) := goodIn_app (goodIn_of _ (by decide +kernel)) ggX0_isTicked_X0_isFor
set_option maxRecDepth 20000 in
theorem ggX0_isTicked_X0_isOpen : GoodIn wsX0_isTicked wsX0_isOpen := goodIn_r _ [16, 17, 10, 11, 12, 18, 19, 20, 21, 22, 23, 24, 25, 26] (by decide +kernel) (by decide +kernel)
set_option maxRecDepth 20000 in
theorem gX0_isTicked_X0_isOpen : GoodIn wsX0_isTicked (wsV RX0 63 RX0 yX0_isOpen wsX0_isOpen) := goodIn_app (goodIn_of _ (by decide +kernel)) ggX0_isTicked_X0_isOpen
set_option maxRecDepth 20000 in
theorem ggX0_isTicked_X3_at : GoodIn wsX0_isTicked wsX3_at := goodIn_r _ [12] (by decide +kernel) (by decide +kernel)
set_option maxRecDepth 20000 in
theorem gX0_isTicked_X3_at_n34 : GoodIn wsX0_isTicked (wsX3_at) := ggX0_isTicked_X3_at
theorem dX0_isTicked_0 : decode cX0_isTicked 0 = .ok (.iconst 0, 1) := by decide +kernel
theorem dX0_isTicked_1 : decode cX0_isTicked 1 = .ok (.istore_n 3, 1) := by decide +kernel
theorem dX0_isTicked_2 : decode cX0_isTicked 2 = .ok (.iconst 0, 1) := by decide +kernel
theorem dX0_isTicked_3 : decode cX0_isTicked 3 = .ok (.istore 4, 2) := by decide +kernel
theorem dX0_isTicked_5 : decode cX0_isTicked 5 = .ok (.iload 4, 2) := by decide +kernel
theorem dX0_isTicked_7 : decode cX0_isTicked 7 = .ok (.aload_n 0, 1) := by decide +kernel
theorem dX0_isTicked_8 : decode cX0_isTicked 8 = .ok (.getfield 30, 3) := by decide +kernel
theorem dX0_isTicked_11 : decode cX0_isTicked 11 = .ok (.if_icmp .ge 47, 3) := by decide +kernel
theorem dX0_isTicked_14 : decode cX0_isTicked 14 = .ok (.aload_n 0, 1) := by decide +kernel
theorem dX0_isTicked_15 : decode cX0_isTicked 15 = .ok (.iload 4, 2) := by decide +kernel
theorem dX0_isTicked_17 : decode cX0_isTicked 17 = .ok (.iconst 1, 1) := by decide +kernel
theorem dX0_isTicked_18 : decode cX0_isTicked 18 = .ok (.iload_n 1, 1) := by decide +kernel
theorem dX0_isTicked_19 : decode cX0_isTicked 19 = .ok (.invokevirtual 60, 3) := by decide +kernel
theorem dX0_isTicked_22 : decode cX0_isTicked 22 = .ok (.ifCond .eq 30, 3) := by decide +kernel
theorem dX0_isTicked_25 : decode cX0_isTicked 25 = .ok (.aload_n 0, 1) := by decide +kernel
theorem dX0_isTicked_26 : decode cX0_isTicked 26 = .ok (.iload 4, 2) := by decide +kernel
theorem dX0_isTicked_28 : decode cX0_isTicked 28 = .ok (.iload_n 2, 1) := by decide +kernel
theorem dX0_isTicked_29 : decode cX0_isTicked 29 = .ok (.invokevirtual 63, 3) := by decide +kernel
theorem dX0_isTicked_32 : decode cX0_isTicked 32 = .ok (.ifCond .eq 18, 3) := by decide +kernel
theorem dX0_isTicked_35 : decode cX0_isTicked 35 = .ok (.aload_n 0, 1) := by decide +kernel
theorem dX0_isTicked_36 : decode cX0_isTicked 36 = .ok (.getfield 24, 3) := by decide +kernel
theorem dX0_isTicked_39 : decode cX0_isTicked 39 = .ok (.iload 4, 2) := by decide +kernel
theorem dX0_isTicked_41 : decode cX0_isTicked 41 = .ok (.invokestatic 34, 3) := by decide +kernel
theorem dX0_isTicked_44 : decode cX0_isTicked 44 = .ok (.iconst 1, 1) := by decide +kernel
theorem dX0_isTicked_45 : decode cX0_isTicked 45 = .ok (.if_icmp .ne 5, 3) := by decide +kernel
theorem dX0_isTicked_48 : decode cX0_isTicked 48 = .ok (.iconst 1, 1) := by decide +kernel
theorem dX0_isTicked_49 : decode cX0_isTicked 49 = .ok (.ireturn, 1) := by decide +kernel
theorem dX0_isTicked_50 : decode cX0_isTicked 50 = .ok (.iconst 1, 1) := by decide +kernel
theorem dX0_isTicked_51 : decode cX0_isTicked 51 = .ok (.istore_n 3, 1) := by decide +kernel
theorem dX0_isTicked_52 : decode cX0_isTicked 52 = .ok (.iinc 4 1, 3) := by decide +kernel
theorem dX0_isTicked_55 : decode cX0_isTicked 55 = .ok (.goto (-50), 3) := by decide +kernel
theorem dX0_isTicked_58 : decode cX0_isTicked 58 = .ok (.iload_n 3, 1) := by decide +kernel
theorem dX0_isTicked_59 : decode cX0_isTicked 59 = .ok (.ifCond .ne 7, 3) := by decide +kernel
theorem dX0_isTicked_62 : decode cX0_isTicked 62 = .ok (.iconst 1, 1) := by decide +kernel
theorem dX0_isTicked_63 : decode cX0_isTicked 63 = .ok (.goto 4, 3) := by decide +kernel
theorem dX0_isTicked_66 : decode cX0_isTicked 66 = .ok (.iconst 0, 1) := by decide +kernel
theorem dX0_isTicked_67 : decode cX0_isTicked 67 = .ok (.ireturn, 1) := by decide +kernel
set_option maxRecDepth 20000 in
theorem ggX0_isSkipped_X0_isEmpty : GoodIn wsX0_isSkipped wsX0_isEmpty := goodIn_r _ [8, 9, 2, 10, 11, 12, 25, 26, 27, 28, 29, 30, 31] (by decide +kernel) (by decide +kernel)
set_option maxRecDepth 20000 in
theorem gX0_isSkipped_X0_isEmpty : GoodIn wsX0_isSkipped (wsV RX0 66 RX0 yX0_isEmpty wsX0_isEmpty) := goodIn_app (goodIn_of _ (by decide +kernel)) ggX0_isSkipped_X0_isEmpty
set_option maxRecDepth 20000 in
theorem ggX0_isSkipped_X3_at : GoodIn wsX0_isSkipped wsX3_at := goodIn_r _ [12] (by decide +kernel) (by decide +kernel)
set_option maxRecDepth 20000 in
theorem gX0_isSkipped_X3_at_n34 : GoodIn wsX0_isSkipped (wsX3_at) := ggX0_isSkipped_X3_at
set_option maxRecDepth 20000 in
theorem ggX0_isSkipped_X0_isFor : GoodIn wsX0_isSkipped wsX0_isFor := goodIn_r _ [16, 9, 17, 10, 11, 12, 25, 26, 27, 28, 29, 30, 31] (by decide +kernel) (by decide +kernel)
set_option maxRecDepth 20000 in
theorem gX0_isSkipped_X0_isFor : GoodIn wsX0_isSkipped (wsV RX0 60 RX0 yX0_isFor wsX0_isFor) := goodIn_app (goodIn_of _ (by decide +kernel)) ggX0_isSkipped_X0_isFor
set_option maxRecDepth 20000 in
theorem ggX0_isSkipped_X0_isOpen : GoodIn wsX0_isSkipped wsX0_isOpen := goodIn_r _ [21, 22, 10, 11, 12, 23, 24, 25, 26, 27, 28, 29, 30, 31] (by decide +kernel) (by decide +kernel)
set_option maxRecDepth 20000 in
theorem gX0_isSkipped_X0_isOpen : GoodIn wsX0_isSkipped (wsV RX0 63 RX0 yX0_isOpen wsX0_isOpen) := goodIn_app (goodIn_of _ (by decide +kernel)) ggX0_isSkipped_X0_isOpen
theorem dX0_isSkipped_0 : decode cX0_isSkipped 0 = .ok (.iconst 0, 1) := by decide +kernel
theorem dX0_isSkipped_1 : decode cX0_isSkipped 1 = .ok (.istore_n 3, 1) := by decide +kernel
theorem dX0_isSkipped_2 : decode cX0_isSkipped 2 = .ok (.iload_n 3, 1) := by decide +kernel
theorem dX0_isSkipped_3 : decode cX0_isSkipped 3 = .ok (.aload_n 0, 1) := by decide +kernel
theorem dX0_isSkipped_4 : decode cX0_isSkipped 4 = .ok (.getfield 30, 3) := by decide +kernel
theorem dX0_isSkipped_7 : decode cX0_isSkipped 7 = .ok (.if_icmp .ge 69, 3) := by decide +kernel
theorem dX0_isSkipped_10 : decode cX0_isSkipped 10 = .ok (.aload_n 0, 1) := by decide +kernel
theorem dX0_isSkipped_11 : decode cX0_isSkipped 11 = .ok (.iload_n 3, 1) := by decide +kernel
theorem dX0_isSkipped_12 : decode cX0_isSkipped 12 = .ok (.invokevirtual 66, 3) := by decide +kernel
theorem dX0_isSkipped_15 : decode cX0_isSkipped 15 = .ok (.ifCond .ne 26, 3) := by decide +kernel
theorem dX0_isSkipped_18 : decode cX0_isSkipped 18 = .ok (.aload_n 0, 1) := by decide +kernel
theorem dX0_isSkipped_19 : decode cX0_isSkipped 19 = .ok (.getfield 24, 3) := by decide +kernel
theorem dX0_isSkipped_22 : decode cX0_isSkipped 22 = .ok (.iload_n 3, 1) := by decide +kernel
theorem dX0_isSkipped_23 : decode cX0_isSkipped 23 = .ok (.invokestatic 34, 3) := by decide +kernel
theorem dX0_isSkipped_26 : decode cX0_isSkipped 26 = .ok (.aload_n 0, 1) := by decide +kernel
theorem dX0_isSkipped_27 : decode cX0_isSkipped 27 = .ok (.getfield 21, 3) := by decide +kernel
theorem dX0_isSkipped_30 : decode cX0_isSkipped 30 = .ok (.iload_n 3, 1) := by decide +kernel
theorem dX0_isSkipped_31 : decode cX0_isSkipped 31 = .ok (.invokestatic 34, 3) := by decide +kernel
theorem dX0_isSkipped_34 : decode cX0_isSkipped 34 = .ok (.if_icmp .lt 7, 3) := by decide +kernel
theorem dX0_isSkipped_37 : decode cX0_isSkipped 37 = .ok (.iconst 1, 1) := by decide +kernel
theorem dX0_isSkipped_38 : decode cX0_isSkipped 38 = .ok (.goto 4, 3) := by decide +kernel
theorem dX0_isSkipped_41 : decode cX0_isSkipped 41 = .ok (.iconst 0, 1) := by decide +kernel
theorem dX0_isSkipped_42 : decode cX0_isSkipped 42 = .ok (.istore 4, 2) := by decide +kernel
theorem dX0_isSkipped_44 : decode cX0_isSkipped 44 = .ok (.aload_n 0, 1) := by decide +kernel
theorem dX0_isSkipped_45 : decode cX0_isSkipped 45 = .ok (.iload_n 3, 1) := by decide +kernel
theorem dX0_isSkipped_46 : decode cX0_isSkipped 46 = .ok (.iconst 2, 1) := by decide +kernel
theorem dX0_isSkipped_47 : decode cX0_isSkipped 47 = .ok (.iload_n 1, 1) := by decide +kernel
theorem dX0_isSkipped_48 : decode cX0_isSkipped 48 = .ok (.invokevirtual 60, 3) := by decide +kernel
theorem dX0_isSkipped_51 : decode cX0_isSkipped 51 = .ok (.ifCond .eq 19, 3) := by decide +kernel
theorem dX0_isSkipped_54 : decode cX0_isSkipped 54 = .ok (.aload_n 0, 1) := by decide +kernel
theorem dX0_isSkipped_55 : decode cX0_isSkipped 55 = .ok (.iload_n 3, 1) := by decide +kernel
theorem dX0_isSkipped_56 : decode cX0_isSkipped 56 = .ok (.iload_n 2, 1) := by decide +kernel
theorem dX0_isSkipped_57 : decode cX0_isSkipped 57 = .ok (.invokevirtual 63, 3) := by decide +kernel
theorem dX0_isSkipped_60 : decode cX0_isSkipped 60 = .ok (.ifCond .eq 10, 3) := by decide +kernel
theorem dX0_isSkipped_63 : decode cX0_isSkipped 63 = .ok (.iload 4, 2) := by decide +kernel
theorem dX0_isSkipped_65 : decode cX0_isSkipped 65 = .ok (.ifCond .eq 5, 3) := by decide +kernel
theorem dX0_isSkipped_68 : decode cX0_isSkipped 68 = .ok (.iconst 1, 1) := by decide +kernel
theorem dX0_isSkipped_69 : decode cX0_isSkipped 69 = .ok (.ireturn, 1) := by decide +kernel
theorem dX0_isSkipped_70 : decode cX0_isSkipped 70 = .ok (.iinc 3 1, 3) := by decide +kernel
theorem dX0_isSkipped_73 : decode cX0_isSkipped 73 = .ok (.goto (-71), 3) := by decide +kernel
theorem dX0_isSkipped_76 : decode cX0_isSkipped 76 = .ok (.iconst 0, 1) := by decide +kernel
theorem dX0_isSkipped_77 : decode cX0_isSkipped 77 = .ok (.ireturn, 1) := by decide +kernel
set_option maxRecDepth 20000 in
theorem ggX0_boxesFor_X0_isFor : GoodIn wsX0_boxesFor wsX0_isFor := goodIn_r _ [6, 7, 8, 9, 10, 11, 12, 13, 14, 15, 16, 17, 18] (by decide +kernel) (by decide +kernel)
set_option maxRecDepth 20000 in
theorem gX0_boxesFor_X0_isFor : GoodIn wsX0_boxesFor (wsV RX0 60 RX0 yX0_isFor wsX0_isFor) := goodIn_app (goodIn_of _ (by decide +kernel)) ggX0_boxesFor_X0_isFor
theorem dX0_boxesFor_0 : decode cX0_boxesFor 0 = .ok (.iconst 0, 1) := by decide +kernel
theorem dX0_boxesFor_1 : decode cX0_boxesFor 1 = .ok (.istore_n 3, 1) := by decide +kernel
theorem dX0_boxesFor_2 : decode cX0_boxesFor 2 = .ok (.iconst 0, 1) := by decide +kernel
theorem dX0_boxesFor_3 : decode cX0_boxesFor 3 = .ok (.istore 4, 2) := by decide +kernel
theorem dX0_boxesFor_5 : decode cX0_boxesFor 5 = .ok (.iload 4, 2) := by decide +kernel
theorem dX0_boxesFor_7 : decode cX0_boxesFor 7 = .ok (.aload_n 0, 1) := by decide +kernel
theorem dX0_boxesFor_8 : decode cX0_boxesFor 8 = .ok (.getfield 30, 3) := by decide +kernel
theorem dX0_boxesFor_11 : decode cX0_boxesFor 11 = .ok (.if_icmp .ge 23, 3) := by decide +kernel
theorem dX0_boxesFor_14 : decode cX0_boxesFor 14 = .ok (.aload_n 0, 1) := by decide +kernel
theorem dX0_boxesFor_15 : decode cX0_boxesFor 15 = .ok (.iload 4, 2) := by decide +kernel
theorem dX0_boxesFor_17 : decode cX0_boxesFor 17 = .ok (.iload_n 1, 1) := by decide +kernel
theorem dX0_boxesFor_18 : decode cX0_boxesFor 18 = .ok (.iload_n 2, 1) := by decide +kernel
theorem dX0_boxesFor_19 : decode cX0_boxesFor 19 = .ok (.invokevirtual 60, 3) := by decide +kernel
theorem dX0_boxesFor_22 : decode cX0_boxesFor 22 = .ok (.ifCond .eq 6, 3) := by decide +kernel
theorem dX0_boxesFor_25 : decode cX0_boxesFor 25 = .ok (.iinc 3 1, 3) := by decide +kernel
theorem dX0_boxesFor_28 : decode cX0_boxesFor 28 = .ok (.iinc 4 1, 3) := by decide +kernel
theorem dX0_boxesFor_31 : decode cX0_boxesFor 31 = .ok (.goto (-26), 3) := by decide +kernel
theorem dX0_boxesFor_34 : decode cX0_boxesFor 34 = .ok (.iload_n 3, 1) := by decide +kernel
theorem dX0_boxesFor_35 : decode cX0_boxesFor 35 = .ok (.ireturn, 1) := by decide +kernel
set_option maxRecDepth 20000 in
theorem ggX0_isOpen_X3_at : GoodIn wsX0_isOpen wsX3_at := goodIn_r _ [4] (by decide +kernel) (by decide +kernel)
set_option maxRecDepth 20000 in
theorem gX0_isOpen_X3_at_n34 : GoodIn wsX0_isOpen (wsX3_at) := ggX0_isOpen_X3_at
set_option maxRecDepth 20000 in
theorem ggX0_isOpen_X3_isInMask : GoodIn wsX0_isOpen wsX3_isInMask := goodIn_r _ [6] (by decide +kernel) (by decide +kernel)
set_option maxRecDepth 20000 in
theorem gX0_isOpen_X3_isInMask_n70 : GoodIn wsX0_isOpen (wsX3_isInMask) := ggX0_isOpen_X3_isInMask
theorem dX0_isOpen_0 : decode cX0_isOpen 0 = .ok (.aload_n 0, 1) := by decide +kernel
theorem dX0_isOpen_1 : decode cX0_isOpen 1 = .ok (.getfield 15, 3) := by decide +kernel
theorem dX0_isOpen_4 : decode cX0_isOpen 4 = .ok (.iload_n 1, 1) := by decide +kernel
theorem dX0_isOpen_5 : decode cX0_isOpen 5 = .ok (.invokestatic 34, 3) := by decide +kernel
theorem dX0_isOpen_8 : decode cX0_isOpen 8 = .ok (.iload_n 2, 1) := by decide +kernel
theorem dX0_isOpen_9 : decode cX0_isOpen 9 = .ok (.invokestatic 70, 3) := by decide +kernel
theorem dX0_isOpen_12 : decode cX0_isOpen 12 = .ok (.ireturn, 1) := by decide +kernel
set_option maxRecDepth 20000 in
theorem ggX0_wants_X0_isOpen : GoodIn wsX0_wants wsX0_isOpen := goodIn_r _ [5, 6, 7, 8, 9, 10, 11, 18, 19, 20, 21, 22, 23, 24] (by decide +kernel) (by decide +kernel)
set_option maxRecDepth 20000 in
theorem gX0_wants_X0_isOpen : GoodIn wsX0_wants (wsV RX0 63 RX0 yX0_isOpen wsX0_isOpen) := goodIn_app (goodIn_of _ (by decide +kernel)) ggX0_wants_X0_isOpen
set_option maxRecDepth 20000 in
theorem ggX0_wants_X0_isEmpty : GoodIn wsX0_wants wsX0_isEmpty := goodIn_r _ [15, 16, 17, 7, 8, 9, 18, 19, 20, 21, 22, 23, 24] (by decide +kernel) (by decide +kernel)
set_option maxRecDepth 20000 in
theorem gX0_wants_X0_isEmpty : GoodIn wsX0_wants (wsV RX0 66 RX0 yX0_isEmpty wsX0_isEmpty) := goodIn_app (goodIn_of _ (by decide +kernel)) ggX0_wants_X0_isEmpty
theorem dX0_wants_0 : decode cX0_wants 0 = .ok (.aload_n 0, 1) := by decide +kernel
theorem dX0_wants_1 : decode cX0_wants 1 = .ok (.iload_n 1, 1) := by decide +kernel
theorem dX0_wants_2 : decode cX0_wants 2 = .ok (.iload_n 2, 1) := by decide +kernel
theorem dX0_wants_3 : decode cX0_wants 3 = .ok (.invokevirtual 63, 3) := by decide +kernel
theorem dX0_wants_6 : decode cX0_wants 6 = .ok (.ifCond .eq 15, 3) := by decide +kernel
theorem dX0_wants_9 : decode cX0_wants 9 = .ok (.aload_n 0, 1) := by decide +kernel
theorem dX0_wants_10 : decode cX0_wants 10 = .ok (.iload_n 1, 1) := by decide +kernel
theorem dX0_wants_11 : decode cX0_wants 11 = .ok (.invokevirtual 66, 3) := by decide +kernel
theorem dX0_wants_14 : decode cX0_wants 14 = .ok (.ifCond .eq 7, 3) := by decide +kernel
theorem dX0_wants_17 : decode cX0_wants 17 = .ok (.iconst 1, 1) := by decide +kernel
theorem dX0_wants_18 : decode cX0_wants 18 = .ok (.goto 4, 3) := by decide +kernel
theorem dX0_wants_21 : decode cX0_wants 21 = .ok (.iconst 0, 1) := by decide +kernel
theorem dX0_wants_22 : decode cX0_wants 22 = .ok (.ireturn, 1) := by decide +kernel
set_option maxRecDepth 20000 in
theorem ggX0_boxesIn_X3_at : GoodIn wsX0_boxesIn wsX3_at := goodIn_r _ [5] (by decide +kernel) (by decide +kernel)
set_option maxRecDepth 20000 in
theorem gX0_boxesIn_X3_at_n34 : GoodIn wsX0_boxesIn (wsX3_at) := ggX0_boxesIn_X3_at
theorem dX0_boxesIn_0 : decode cX0_boxesIn 0 = .ok (.iconst 0, 1) := by decide +kernel
theorem dX0_boxesIn_1 : decode cX0_boxesIn 1 = .ok (.istore_n 2, 1) := by decide +kernel
theorem dX0_boxesIn_2 : decode cX0_boxesIn 2 = .ok (.iconst 0, 1) := by decide +kernel
theorem dX0_boxesIn_3 : decode cX0_boxesIn 3 = .ok (.istore_n 3, 1) := by decide +kernel
theorem dX0_boxesIn_4 : decode cX0_boxesIn 4 = .ok (.iload_n 3, 1) := by decide +kernel
theorem dX0_boxesIn_5 : decode cX0_boxesIn 5 = .ok (.aload_n 0, 1) := by decide +kernel
theorem dX0_boxesIn_6 : decode cX0_boxesIn 6 = .ok (.getfield 30, 3) := by decide +kernel
theorem dX0_boxesIn_9 : decode cX0_boxesIn 9 = .ok (.if_icmp .ge 24, 3) := by decide +kernel
theorem dX0_boxesIn_12 : decode cX0_boxesIn 12 = .ok (.aload_n 0, 1) := by decide +kernel
theorem dX0_boxesIn_13 : decode cX0_boxesIn 13 = .ok (.getfield 15, 3) := by decide +kernel
theorem dX0_boxesIn_16 : decode cX0_boxesIn 16 = .ok (.iload_n 3, 1) := by decide +kernel
theorem dX0_boxesIn_17 : decode cX0_boxesIn 17 = .ok (.invokestatic 34, 3) := by decide +kernel
theorem dX0_boxesIn_20 : decode cX0_boxesIn 20 = .ok (.iload_n 1, 1) := by decide +kernel
theorem dX0_boxesIn_21 : decode cX0_boxesIn 21 = .ok (.if_icmp .ne 6, 3) := by decide +kernel
theorem dX0_boxesIn_24 : decode cX0_boxesIn 24 = .ok (.iinc 2 1, 3) := by decide +kernel
theorem dX0_boxesIn_27 : decode cX0_boxesIn 27 = .ok (.iinc 3 1, 3) := by decide +kernel
theorem dX0_boxesIn_30 : decode cX0_boxesIn 30 = .ok (.goto (-26), 3) := by decide +kernel
theorem dX0_boxesIn_33 : decode cX0_boxesIn 33 = .ok (.iload_n 2, 1) := by decide +kernel
theorem dX0_boxesIn_34 : decode cX0_boxesIn 34 = .ok (.ireturn, 1) := by decide +kernel
set_option maxRecDepth 20000 in
theorem ggX0_wantingIn_X3_at : GoodIn wsX0_wantingIn wsX3_at := goodIn_r _ [5] (by decide +kernel) (by decide +kernel)
set_option maxRecDepth 20000 in
theorem gX0_wantingIn_X3_at_n34 : GoodIn wsX0_wantingIn (wsX3_at) := ggX0_wantingIn_X3_at
set_option maxRecDepth 20000 in
theorem ggX0_wantingIn_X0_wants : GoodIn wsX0_wantingIn wsX0_wants := goodIn_r _ [10, 11, 12, 13, 9, 14, 2, 3, 4, 5, 15, 16, 17, 18, 19, 20, 21, 22, 23, 24, 25, 26, 27, 28, 29] (by decide +kernel) (by decide +kernel)
set_option maxRecDepth 20000 in
theorem gX0_wantingIn_X0_wants : GoodIn wsX0_wantingIn (wsV RX0 73 RX0 yX0_wants wsX0_wants) := goodIn_app (goodIn_of _ (by decide +kernel)) ggX0_wantingIn_X0_wants
theorem dX0_wantingIn_0 : decode cX0_wantingIn 0 = .ok (.iconst 0, 1) := by decide +kernel
theorem dX0_wantingIn_1 : decode cX0_wantingIn 1 = .ok (.istore_n 3, 1) := by decide +kernel
theorem dX0_wantingIn_2 : decode cX0_wantingIn 2 = .ok (.iconst 0, 1) := by decide +kernel
theorem dX0_wantingIn_3 : decode cX0_wantingIn 3 = .ok (.istore 4, 2) := by decide +kernel
theorem dX0_wantingIn_5 : decode cX0_wantingIn 5 = .ok (.iload 4, 2) := by decide +kernel
theorem dX0_wantingIn_7 : decode cX0_wantingIn 7 = .ok (.aload_n 0, 1) := by decide +kernel
theorem dX0_wantingIn_8 : decode cX0_wantingIn 8 = .ok (.getfield 30, 3) := by decide +kernel
theorem dX0_wantingIn_11 : decode cX0_wantingIn 11 = .ok (.if_icmp .ge 35, 3) := by decide +kernel
theorem dX0_wantingIn_14 : decode cX0_wantingIn 14 = .ok (.aload_n 0, 1) := by decide +kernel
theorem dX0_wantingIn_15 : decode cX0_wantingIn 15 = .ok (.getfield 15, 3) := by decide +kernel
theorem dX0_wantingIn_18 : decode cX0_wantingIn 18 = .ok (.iload 4, 2) := by decide +kernel
theorem dX0_wantingIn_20 : decode cX0_wantingIn 20 = .ok (.invokestatic 34, 3) := by decide +kernel
theorem dX0_wantingIn_23 : decode cX0_wantingIn 23 = .ok (.iload_n 1, 1) := by decide +kernel
theorem dX0_wantingIn_24 : decode cX0_wantingIn 24 = .ok (.if_icmp .ne 16, 3) := by decide +kernel
theorem dX0_wantingIn_27 : decode cX0_wantingIn 27 = .ok (.aload_n 0, 1) := by decide +kernel
theorem dX0_wantingIn_28 : decode cX0_wantingIn 28 = .ok (.iload 4, 2) := by decide +kernel
theorem dX0_wantingIn_30 : decode cX0_wantingIn 30 = .ok (.iload_n 2, 1) := by decide +kernel
theorem dX0_wantingIn_31 : decode cX0_wantingIn 31 = .ok (.invokevirtual 73, 3) := by decide +kernel
theorem dX0_wantingIn_34 : decode cX0_wantingIn 34 = .ok (.ifCond .eq 6, 3) := by decide +kernel
theorem dX0_wantingIn_37 : decode cX0_wantingIn 37 = .ok (.iinc 3 1, 3) := by decide +kernel
theorem dX0_wantingIn_40 : decode cX0_wantingIn 40 = .ok (.iinc 4 1, 3) := by decide +kernel
theorem dX0_wantingIn_43 : decode cX0_wantingIn 43 = .ok (.goto (-38), 3) := by decide +kernel
theorem dX0_wantingIn_46 : decode cX0_wantingIn 46 = .ok (.iload_n 3, 1) := by decide +kernel
theorem dX0_wantingIn_47 : decode cX0_wantingIn 47 = .ok (.ireturn, 1) := by decide +kernel
set_option maxRecDepth 20000 in
theorem ggX0_wanting_X0_wants : GoodIn wsX0_wanting wsX0_wants := goodIn_r _ [6, 7, 8, 9, 5, 10, 11, 12, 13, 14, 15, 16, 17, 18, 19, 20, 21, 22, 23, 24, 25, 26, 27, 28, 29] (by decide +kernel) (by decide +kernel)
set_option maxRecDepth 20000 in
theorem gX0_wanting_X0_wants : GoodIn wsX0_wanting (wsV RX0 73 RX0 yX0_wants wsX0_wants) := goodIn_app (goodIn_of _ (by decide +kernel)) ggX0_wanting_X0_wants
theorem dX0_wanting_0 : decode cX0_wanting 0 = .ok (.iconst 0, 1) := by decide +kernel
theorem dX0_wanting_1 : decode cX0_wanting 1 = .ok (.istore_n 2, 1) := by decide +kernel
theorem dX0_wanting_2 : decode cX0_wanting 2 = .ok (.iconst 0, 1) := by decide +kernel
theorem dX0_wanting_3 : decode cX0_wanting 3 = .ok (.istore_n 3, 1) := by decide +kernel
theorem dX0_wanting_4 : decode cX0_wanting 4 = .ok (.iload_n 3, 1) := by decide +kernel
theorem dX0_wanting_5 : decode cX0_wanting 5 = .ok (.aload_n 0, 1) := by decide +kernel
theorem dX0_wanting_6 : decode cX0_wanting 6 = .ok (.getfield 30, 3) := by decide +kernel
theorem dX0_wanting_9 : decode cX0_wanting 9 = .ok (.if_icmp .ge 21, 3) := by decide +kernel
theorem dX0_wanting_12 : decode cX0_wanting 12 = .ok (.aload_n 0, 1) := by decide +kernel
theorem dX0_wanting_13 : decode cX0_wanting 13 = .ok (.iload_n 3, 1) := by decide +kernel
theorem dX0_wanting_14 : decode cX0_wanting 14 = .ok (.iload_n 1, 1) := by decide +kernel
theorem dX0_wanting_15 : decode cX0_wanting 15 = .ok (.invokevirtual 73, 3) := by decide +kernel
theorem dX0_wanting_18 : decode cX0_wanting 18 = .ok (.ifCond .eq 6, 3) := by decide +kernel
theorem dX0_wanting_21 : decode cX0_wanting 21 = .ok (.iinc 2 1, 3) := by decide +kernel
theorem dX0_wanting_24 : decode cX0_wanting 24 = .ok (.iinc 3 1, 3) := by decide +kernel
theorem dX0_wanting_27 : decode cX0_wanting 27 = .ok (.goto (-23), 3) := by decide +kernel
theorem dX0_wanting_30 : decode cX0_wanting 30 = .ok (.iload_n 2, 1) := by decide +kernel
theorem dX0_wanting_31 : decode cX0_wanting 31 = .ok (.ireturn, 1) := by decide +kernel
set_option maxRecDepth 20000 in
theorem ggX0_firstWanting_X0_wants : GoodIn wsX0_firstWanting wsX0_wants := goodIn_r _ [6, 7, 8, 9, 5, 10, 11, 12, 13, 14, 15, 16, 17, 18, 19, 20, 21, 22, 23, 24, 25, 26, 27, 28, 29] (by decide +kernel) (by decide +kernel)
set_option maxRecDepth 20000 in
theorem gX0_firstWanting_X0_wants : GoodIn wsX0_firstWanting (wsV RX0 73 RX0 yX0_wants wsX0_wants) := goodIn_app (goodIn_of _ (by decide +kernel)) ggX0_firstWanting_X0_wants
theorem dX0_firstWanting_0 : decode cX0_firstWanting 0 = .ok (.iconst 0, 1) := by decide +kernel
theorem dX0_firstWanting_1 : decode cX0_firstWanting 1 = .ok (.istore_n 2, 1) := by decide +kernel
theorem dX0_firstWanting_2 : decode cX0_firstWanting 2 = .ok (.iload_n 2, 1) := by decide +kernel
theorem dX0_firstWanting_3 : decode cX0_firstWanting 3 = .ok (.aload_n 0, 1) := by decide +kernel
theorem dX0_firstWanting_4 : decode cX0_firstWanting 4 = .ok (.getfield 30, 3) := by decide +kernel
theorem dX0_firstWanting_7 : decode cX0_firstWanting 7 = .ok (.if_icmp .ge 20, 3) := by decide +kernel
theorem dX0_firstWanting_10 : decode cX0_firstWanting 10 = .ok (.aload_n 0, 1) := by decide +kernel
theorem dX0_firstWanting_11 : decode cX0_firstWanting 11 = .ok (.iload_n 2, 1) := by decide +kernel
theorem dX0_firstWanting_12 : decode cX0_firstWanting 12 = .ok (.iload_n 1, 1) := by decide +kernel
theorem dX0_firstWanting_13 : decode cX0_firstWanting 13 = .ok (.invokevirtual 73, 3) := by decide +kernel
theorem dX0_firstWanting_16 : decode cX0_firstWanting 16 = .ok (.ifCond .eq 5, 3) := by decide +kernel
theorem dX0_firstWanting_19 : decode cX0_firstWanting 19 = .ok (.iload_n 2, 1) := by decide +kernel
theorem dX0_firstWanting_20 : decode cX0_firstWanting 20 = .ok (.ireturn, 1) := by decide +kernel
theorem dX0_firstWanting_21 : decode cX0_firstWanting 21 = .ok (.iinc 2 1, 3) := by decide +kernel
theorem dX0_firstWanting_24 : decode cX0_firstWanting 24 = .ok (.goto (-22), 3) := by decide +kernel
theorem dX0_firstWanting_27 : decode cX0_firstWanting 27 = .ok (.iconst (-1), 1) := by decide +kernel
theorem dX0_firstWanting_28 : decode cX0_firstWanting 28 = .ok (.ireturn, 1) := by decide +kernel
set_option maxRecDepth 20000 in
theorem ggX0_openBoxes_X0_isOpen : GoodIn wsX0_openBoxes wsX0_isOpen := goodIn_r _ [6, 7, 8, 9, 10, 11, 12, 13, 14, 15, 16, 17, 18, 19] (by decide +kernel) (by decide +kernel)
set_option maxRecDepth 20000 in
theorem gX0_openBoxes_X0_isOpen : GoodIn wsX0_openBoxes (wsV RX0 63 RX0 yX0_isOpen wsX0_isOpen) := goodIn_app (goodIn_of _ (by decide +kernel)) ggX0_openBoxes_X0_isOpen
theorem dX0_openBoxes_0 : decode cX0_openBoxes 0 = .ok (.iconst 0, 1) := by decide +kernel
theorem dX0_openBoxes_1 : decode cX0_openBoxes 1 = .ok (.istore_n 2, 1) := by decide +kernel
theorem dX0_openBoxes_2 : decode cX0_openBoxes 2 = .ok (.iconst 0, 1) := by decide +kernel
theorem dX0_openBoxes_3 : decode cX0_openBoxes 3 = .ok (.istore_n 3, 1) := by decide +kernel
theorem dX0_openBoxes_4 : decode cX0_openBoxes 4 = .ok (.iload_n 3, 1) := by decide +kernel
theorem dX0_openBoxes_5 : decode cX0_openBoxes 5 = .ok (.aload_n 0, 1) := by decide +kernel
theorem dX0_openBoxes_6 : decode cX0_openBoxes 6 = .ok (.getfield 30, 3) := by decide +kernel
theorem dX0_openBoxes_9 : decode cX0_openBoxes 9 = .ok (.if_icmp .ge 21, 3) := by decide +kernel
theorem dX0_openBoxes_12 : decode cX0_openBoxes 12 = .ok (.aload_n 0, 1) := by decide +kernel
theorem dX0_openBoxes_13 : decode cX0_openBoxes 13 = .ok (.iload_n 3, 1) := by decide +kernel
theorem dX0_openBoxes_14 : decode cX0_openBoxes 14 = .ok (.iload_n 1, 1) := by decide +kernel
theorem dX0_openBoxes_15 : decode cX0_openBoxes 15 = .ok (.invokevirtual 63, 3) := by decide +kernel
theorem dX0_openBoxes_18 : decode cX0_openBoxes 18 = .ok (.ifCond .eq 6, 3) := by decide +kernel
theorem dX0_openBoxes_21 : decode cX0_openBoxes 21 = .ok (.iinc 2 1, 3) := by decide +kernel
theorem dX0_openBoxes_24 : decode cX0_openBoxes 24 = .ok (.iinc 3 1, 3) := by decide +kernel
theorem dX0_openBoxes_27 : decode cX0_openBoxes 27 = .ok (.goto (-23), 3) := by decide +kernel
theorem dX0_openBoxes_30 : decode cX0_openBoxes 30 = .ok (.iload_n 2, 1) := by decide +kernel
theorem dX0_openBoxes_31 : decode cX0_openBoxes 31 = .ok (.ireturn, 1) := by decide +kernel
set_option maxRecDepth 20000 in
theorem ggX0_openToAnswer_X0_isOpen : GoodIn wsX0_openToAnswer wsX0_isOpen := goodIn_r _ [7, 8, 9, 10, 11, 12, 13, 14, 15, 16, 17, 18, 19, 20] (by decide +kernel) (by decide +kernel)
set_option maxRecDepth 20000 in
theorem gX0_openToAnswer_X0_isOpen : GoodIn wsX0_openToAnswer (wsV RX0 63 RX0 yX0_isOpen wsX0_isOpen) := goodIn_app (goodIn_of _ (by decide +kernel)) ggX0_openToAnswer_X0_isOpen
set_option maxRecDepth 20000 in
theorem ggX0_openToAnswer_X3_at : GoodIn wsX0_openToAnswer wsX3_at := goodIn_r _ [11] (by decide +kernel) (by decide +kernel)
set_option maxRecDepth 20000 in
theorem gX0_openToAnswer_X3_at_n34 : GoodIn wsX0_openToAnswer (wsX3_at) := ggX0_openToAnswer_X3_at
theorem dX0_openToAnswer_0 : decode cX0_openToAnswer 0 = .ok (.iconst 0, 1) := by decide +kernel
theorem dX0_openToAnswer_1 : decode cX0_openToAnswer 1 = .ok (.istore_n 2, 1) := by decide +kernel
theorem dX0_openToAnswer_2 : decode cX0_openToAnswer 2 = .ok (.iconst 0, 1) := by decide +kernel
theorem dX0_openToAnswer_3 : decode cX0_openToAnswer 3 = .ok (.istore_n 3, 1) := by decide +kernel
theorem dX0_openToAnswer_4 : decode cX0_openToAnswer 4 = .ok (.iload_n 3, 1) := by decide +kernel
theorem dX0_openToAnswer_5 : decode cX0_openToAnswer 5 = .ok (.aload_n 0, 1) := by decide +kernel
theorem dX0_openToAnswer_6 : decode cX0_openToAnswer 6 = .ok (.getfield 30, 3) := by decide +kernel
theorem dX0_openToAnswer_9 : decode cX0_openToAnswer 9 = .ok (.if_icmp .ge 33, 3) := by decide +kernel
theorem dX0_openToAnswer_12 : decode cX0_openToAnswer 12 = .ok (.aload_n 0, 1) := by decide +kernel
theorem dX0_openToAnswer_13 : decode cX0_openToAnswer 13 = .ok (.iload_n 3, 1) := by decide +kernel
theorem dX0_openToAnswer_14 : decode cX0_openToAnswer 14 = .ok (.iload_n 1, 1) := by decide +kernel
theorem dX0_openToAnswer_15 : decode cX0_openToAnswer 15 = .ok (.invokevirtual 63, 3) := by decide +kernel
theorem dX0_openToAnswer_18 : decode cX0_openToAnswer 18 = .ok (.ifCond .eq 18, 3) := by decide +kernel
theorem dX0_openToAnswer_21 : decode cX0_openToAnswer 21 = .ok (.aload_n 0, 1) := by decide +kernel
theorem dX0_openToAnswer_22 : decode cX0_openToAnswer 22 = .ok (.getfield 9, 3) := by decide +kernel
theorem dX0_openToAnswer_25 : decode cX0_openToAnswer 25 = .ok (.iload_n 3, 1) := by decide +kernel
theorem dX0_openToAnswer_26 : decode cX0_openToAnswer 26 = .ok (.invokestatic 34, 3) := by decide +kernel
theorem dX0_openToAnswer_29 : decode cX0_openToAnswer 29 = .ok (.iconst 3, 1) := by decide +kernel
theorem dX0_openToAnswer_30 : decode cX0_openToAnswer 30 = .ok (.if_icmp .eq 6, 3) := by decide +kernel
theorem dX0_openToAnswer_33 : decode cX0_openToAnswer 33 = .ok (.iinc 2 1, 3) := by decide +kernel
theorem dX0_openToAnswer_36 : decode cX0_openToAnswer 36 = .ok (.iinc 3 1, 3) := by decide +kernel
theorem dX0_openToAnswer_39 : decode cX0_openToAnswer 39 = .ok (.goto (-35), 3) := by decide +kernel
theorem dX0_openToAnswer_42 : decode cX0_openToAnswer 42 = .ok (.iload_n 2, 1) := by decide +kernel
theorem dX0_openToAnswer_43 : decode cX0_openToAnswer 43 = .ok (.ireturn, 1) := by decide +kernel
set_option maxRecDepth 20000 in
theorem ggX0_canComeTo_X3_isInMask : GoodIn wsX0_canComeTo wsX3_isInMask := goodIn_r _ [3] (by decide +kernel) (by decide +kernel)
set_option maxRecDepth 20000 in
theorem gX0_canComeTo_X3_isInMask_n70 : GoodIn wsX0_canComeTo (wsX3_isInMask) := ggX0_canComeTo_X3_isInMask
set_option maxRecDepth 20000 in
theorem ggX0_canComeTo_X0_canOpen : GoodIn wsX0_canComeTo wsX0_canOpen := goodIn_r _ [8, 9, 10, 11, 7, 12, 13, 14, 15, 16, 17, 18, 19, 20, 21, 2, 22, 23, 24, 25, 26, 27, 1, 3, 28, 29, 30, 31, 32, 33, 34, 35, 36, 37, 38, 39, 40, 45, 46, 47, 48, 49, 50, 51] (by decide +kernel) (by decide +kernel)
set_option maxRecDepth 20000 in
theorem gX0_canComeTo_X0_canOpen : GoodIn wsX0_canComeTo (wsV RX0 76 RX0 yX0_canOpen wsX0_canOpen) := goodIn_app (goodIn_of _ (by decide +kernel)) ggX0_canComeTo_X0_canOpen
set_option maxRecDepth 20000 in
theorem ggX0_canComeTo_X0_canClose : GoodIn wsX0_canComeTo wsX0_canClose := goodIn_r _ [44, 9, 10, 11, 7, 12, 13, 14, 15, 16, 17, 18, 19, 20, 21, 2, 22, 23, 24, 25, 26, 27, 1, 3, 37, 38, 39, 40, 32, 33, 34, 35, 36, 28, 29, 30, 31, 45, 46, 47, 48, 49, 50, 51] (by decide +kernel) (by decide +kernel)
set_option maxRecDepth 20000 in
theorem gX0_canComeTo_X0_canClose : GoodIn wsX0_canComeTo (wsV RX0 79 RX0 yX0_canClose wsX0_canClose) := goodIn_app (goodIn_of _ (by decide +kernel)) ggX0_canComeTo_X0_canClose
theorem dX0_canComeTo_0 : decode cX0_canComeTo 0 = .ok (.iconst 1, 1) := by decide +kernel
theorem dX0_canComeTo_1 : decode cX0_canComeTo 1 = .ok (.istore_n 2, 1) := by decide +kernel
theorem dX0_canComeTo_2 : decode cX0_canComeTo 2 = .ok (.iload_n 2, 1) := by decide +kernel
theorem dX0_canComeTo_3 : decode cX0_canComeTo 3 = .ok (.iconst 5, 1) := by decide +kernel
theorem dX0_canComeTo_4 : decode cX0_canComeTo 4 = .ok (.if_icmp .ge 39, 3) := by decide +kernel
theorem dX0_canComeTo_7 : decode cX0_canComeTo 7 = .ok (.iload_n 2, 1) := by decide +kernel
theorem dX0_canComeTo_8 : decode cX0_canComeTo 8 = .ok (.iload_n 1, 1) := by decide +kernel
theorem dX0_canComeTo_9 : decode cX0_canComeTo 9 = .ok (.invokestatic 70, 3) := by decide +kernel
theorem dX0_canComeTo_12 : decode cX0_canComeTo 12 = .ok (.ifCond .eq 12, 3) := by decide +kernel
theorem dX0_canComeTo_15 : decode cX0_canComeTo 15 = .ok (.aload_n 0, 1) := by decide +kernel
theorem dX0_canComeTo_16 : decode cX0_canComeTo 16 = .ok (.iload_n 2, 1) := by decide +kernel
theorem dX0_canComeTo_17 : decode cX0_canComeTo 17 = .ok (.iload_n 1, 1) := by decide +kernel
theorem dX0_canComeTo_18 : decode cX0_canComeTo 18 = .ok (.invokevirtual 76, 3) := by decide +kernel
theorem dX0_canComeTo_21 : decode cX0_canComeTo 21 = .ok (.goto 9, 3) := by decide +kernel
theorem dX0_canComeTo_24 : decode cX0_canComeTo 24 = .ok (.aload_n 0, 1) := by decide +kernel
theorem dX0_canComeTo_25 : decode cX0_canComeTo 25 = .ok (.iload_n 2, 1) := by decide +kernel
theorem dX0_canComeTo_26 : decode cX0_canComeTo 26 = .ok (.iload_n 1, 1) := by decide +kernel
theorem dX0_canComeTo_27 : decode cX0_canComeTo 27 = .ok (.invokevirtual 79, 3) := by decide +kernel
theorem dX0_canComeTo_30 : decode cX0_canComeTo 30 = .ok (.istore_n 3, 1) := by decide +kernel
theorem dX0_canComeTo_31 : decode cX0_canComeTo 31 = .ok (.iload_n 3, 1) := by decide +kernel
theorem dX0_canComeTo_32 : decode cX0_canComeTo 32 = .ok (.ifCond .ne 5, 3) := by decide +kernel
theorem dX0_canComeTo_35 : decode cX0_canComeTo 35 = .ok (.iconst 0, 1) := by decide +kernel
theorem dX0_canComeTo_36 : decode cX0_canComeTo 36 = .ok (.ireturn, 1) := by decide +kernel
theorem dX0_canComeTo_37 : decode cX0_canComeTo 37 = .ok (.iinc 2 1, 3) := by decide +kernel
theorem dX0_canComeTo_40 : decode cX0_canComeTo 40 = .ok (.goto (-38), 3) := by decide +kernel
theorem dX0_canComeTo_43 : decode cX0_canComeTo 43 = .ok (.iconst 1, 1) := by decide +kernel
theorem dX0_canComeTo_44 : decode cX0_canComeTo 44 = .ok (.ireturn, 1) := by decide +kernel
set_option maxRecDepth 20000 in
theorem ggX0_canOpen_X0_isTicked : GoodIn wsX0_canOpen wsX0_isTicked := goodIn_r _ [5, 6, 7, 8, 9, 10, 4, 11, 12, 13, 14, 15, 16, 17, 18, 19, 20, 21, 22, 23, 37, 38, 39, 40, 41, 42, 43] (by decide +kernel) (by decide +kernel)
set_option maxRecDepth 20000 in
theorem gX0_canOpen_X0_isTicked : GoodIn wsX0_canOpen (wsV RX0 53 RX0 yX0_isTicked wsX0_isTicked) := goodIn_app (goodIn_of _ (by decide +kernel)) ggX0_canOpen_X0_isTicked
set_option maxRecDepth 20000 in
theorem ggX0_canOpen_X0_hasWanting : GoodIn wsX0_canOpen wsX0_hasWanting := goodIn_r _ [27, 6, 28, 17, 18, 19, 4, 20, 21, 14, 15, 16, 22, 23, 29, 30, 31, 32, 12, 7, 8, 9, 10, 11, 13, 37, 38, 39, 40, 41, 42, 43] (by decide +kernel) (by decide +kernel)
set_option maxRecDepth 20000 in
theorem gX0_canOpen_X0_hasWanting : GoodIn wsX0_canOpen (wsV RX0 82 RX0 yX0_hasWanting wsX0_hasWanting) := goodIn_app (goodIn_of _ (by decide +kernel)) ggX0_canOpen_X0_hasWanting
set_option maxRecDepth 20000 in
theorem ggX0_canOpen_X0_isSkipped : GoodIn wsX0_canOpen wsX0_isSkipped := goodIn_r _ [36, 6, 7, 28, 29, 30, 31, 4, 32, 12, 14, 15, 16, 8, 9, 10, 11, 13, 17, 18, 19, 20, 21, 22, 23, 37, 38, 39, 40, 41, 42, 43] (by decide +kernel) (by decide +kernel)
set_option maxRecDepth 20000 in
theorem gX0_canOpen_X0_isSkipped : GoodIn wsX0_canOpen (wsV RX0 57 RX0 yX0_isSkipped wsX0_isSkipped) := goodIn_app (goodIn_of _ (by decide +kernel)) ggX0_canOpen_X0_isSkipped
theorem dX0_canOpen_0 : decode cX0_canOpen 0 = .ok (.aload_n 0, 1) := by decide +kernel
theorem dX0_canOpen_1 : decode cX0_canOpen 1 = .ok (.iload_n 1, 1) := by decide +kernel
theorem dX0_canOpen_2 : decode cX0_canOpen 2 = .ok (.iload_n 2, 1) := by decide +kernel
theorem dX0_canOpen_3 : decode cX0_canOpen 3 = .ok (.invokevirtual 53, 3) := by decide +kernel
theorem dX0_canOpen_6 : decode cX0_canOpen 6 = .ok (.ifCond .ne 14, 3) := by decide +kernel
theorem dX0_canOpen_9 : decode cX0_canOpen 9 = .ok (.aload_n 0, 1) := by decide +kernel
theorem dX0_canOpen_10 : decode cX0_canOpen 10 = .ok (.iconst 1, 1) := by decide +kernel
theorem dX0_canOpen_11 : decode cX0_canOpen 11 = .ok (.iload_n 1, 1) := by decide +kernel
theorem dX0_canOpen_12 : decode cX0_canOpen 12 = .ok (.iconst (-1), 1) := by decide +kernel
theorem dX0_canOpen_13 : decode cX0_canOpen 13 = .ok (.iload_n 2, 1) := by decide +kernel
theorem dX0_canOpen_14 : decode cX0_canOpen 14 = .ok (.invokevirtual 82, 3) := by decide +kernel
theorem dX0_canOpen_17 : decode cX0_canOpen 17 = .ok (.ifCond .eq 7, 3) := by decide +kernel
theorem dX0_canOpen_20 : decode cX0_canOpen 20 = .ok (.iconst 1, 1) := by decide +kernel
theorem dX0_canOpen_21 : decode cX0_canOpen 21 = .ok (.goto 4, 3) := by decide +kernel
theorem dX0_canOpen_24 : decode cX0_canOpen 24 = .ok (.iconst 0, 1) := by decide +kernel
theorem dX0_canOpen_25 : decode cX0_canOpen 25 = .ok (.istore_n 3, 1) := by decide +kernel
theorem dX0_canOpen_26 : decode cX0_canOpen 26 = .ok (.iload_n 3, 1) := by decide +kernel
theorem dX0_canOpen_27 : decode cX0_canOpen 27 = .ok (.ifCond .eq 27, 3) := by decide +kernel
theorem dX0_canOpen_30 : decode cX0_canOpen 30 = .ok (.aload_n 0, 1) := by decide +kernel
theorem dX0_canOpen_31 : decode cX0_canOpen 31 = .ok (.iload_n 1, 1) := by decide +kernel
theorem dX0_canOpen_32 : decode cX0_canOpen 32 = .ok (.iload_n 2, 1) := by decide +kernel
theorem dX0_canOpen_33 : decode cX0_canOpen 33 = .ok (.invokevirtual 57, 3) := by decide +kernel
theorem dX0_canOpen_36 : decode cX0_canOpen 36 = .ok (.ifCond .ne 18, 3) := by decide +kernel
theorem dX0_canOpen_39 : decode cX0_canOpen 39 = .ok (.aload_n 0, 1) := by decide +kernel
theorem dX0_canOpen_40 : decode cX0_canOpen 40 = .ok (.iconst 2, 1) := by decide +kernel
theorem dX0_canOpen_41 : decode cX0_canOpen 41 = .ok (.iload_n 1, 1) := by decide +kernel
theorem dX0_canOpen_42 : decode cX0_canOpen 42 = .ok (.iconst 0, 1) := by decide +kernel
theorem dX0_canOpen_43 : decode cX0_canOpen 43 = .ok (.iload_n 2, 1) := by decide +kernel
theorem dX0_canOpen_44 : decode cX0_canOpen 44 = .ok (.invokevirtual 82, 3) := by decide +kernel
theorem dX0_canOpen_47 : decode cX0_canOpen 47 = .ok (.ifCond .ne 7, 3) := by decide +kernel
theorem dX0_canOpen_50 : decode cX0_canOpen 50 = .ok (.iconst 1, 1) := by decide +kernel
theorem dX0_canOpen_51 : decode cX0_canOpen 51 = .ok (.goto 4, 3) := by decide +kernel
theorem dX0_canOpen_54 : decode cX0_canOpen 54 = .ok (.iconst 0, 1) := by decide +kernel
theorem dX0_canOpen_55 : decode cX0_canOpen 55 = .ok (.ireturn, 1) := by decide +kernel
set_option maxRecDepth 20000 in
theorem ggX0_canClose_X0_isTicked : GoodIn wsX0_canClose wsX0_isTicked := goodIn_r _ [5, 6, 7, 8, 9, 10, 4, 11, 12, 13, 14, 15, 16, 17, 18, 19, 20, 21, 22, 23, 37, 38, 39, 40, 41, 42, 43] (by decide +kernel) (by decide +kernel)
set_option maxRecDepth 20000 in
theorem gX0_canClose_X0_isTicked : GoodIn wsX0_canClose (wsV RX0 53 RX0 yX0_isTicked wsX0_isTicked) := goodIn_app (goodIn_of _ (by decide +kernel)) ggX0_canClose_X0_isTicked
set_option maxRecDepth 20000 in
theorem ggX0_canClose_X0_isSkipped : GoodIn wsX0_canClose wsX0_isSkipped := goodIn_r _ [27, 6, 7, 28, 29, 30, 31, 4, 32, 12, 14, 15, 16, 8, 9, 10, 11, 13, 17, 18, 19, 20, 21, 22, 23, 37, 38, 39, 40, 41, 42, 43] (by decide +kernel) (by decide +kernel)
set_option maxRecDepth 20000 in
theorem gX0_canClose_X0_isSkipped : GoodIn wsX0_canClose (wsV RX0 57 RX0 yX0_isSkipped wsX0_isSkipped) := goodIn_app (goodIn_of _ (by decide +kernel)) ggX0_canClose_X0_isSkipped
set_option maxRecDepth 20000 in
theorem ggX0_canClose_X0_hasWanting : GoodIn wsX0_canClose wsX0_hasWanting := goodIn_r _ [36, 6, 28, 17, 18, 19, 4, 20, 21, 14, 15, 16, 22, 23, 29, 30, 31, 32, 12, 7, 8, 9, 10, 11, 13, 37, 38, 39, 40, 41, 42, 43] (by decide +kernel) (by decide +kernel)
set_option maxRecDepth 20000 in
theorem gX0_canClose_X0_hasWanting : GoodIn wsX0_canClose (wsV RX0 82 RX0 yX0_hasWanting wsX0_hasWanting) := goodIn_app (goodIn_of _ (by decide +kernel)) ggX0_canClose_X0_hasWanting
theorem dX0_canClose_0 : decode cX0_canClose 0 = .ok (.aload_n 0, 1) := by decide +kernel
theorem dX0_canClose_1 : decode cX0_canClose 1 = .ok (.iload_n 1, 1) := by decide +kernel
theorem dX0_canClose_2 : decode cX0_canClose 2 = .ok (.iload_n 2, 1) := by decide +kernel
theorem dX0_canClose_3 : decode cX0_canClose 3 = .ok (.invokevirtual 53, 3) := by decide +kernel
theorem dX0_canClose_6 : decode cX0_canClose 6 = .ok (.ifCond .eq 24, 3) := by decide +kernel
theorem dX0_canClose_9 : decode cX0_canClose 9 = .ok (.aload_n 0, 1) := by decide +kernel
theorem dX0_canClose_10 : decode cX0_canClose 10 = .ok (.iload_n 1, 1) := by decide +kernel
theorem dX0_canClose_11 : decode cX0_canClose 11 = .ok (.iload_n 2, 1) := by decide +kernel
theorem dX0_canClose_12 : decode cX0_canClose 12 = .ok (.invokevirtual 57, 3) := by decide +kernel
theorem dX0_canClose_15 : decode cX0_canClose 15 = .ok (.ifCond .ne 15, 3) := by decide +kernel
theorem dX0_canClose_18 : decode cX0_canClose 18 = .ok (.aload_n 0, 1) := by decide +kernel
theorem dX0_canClose_19 : decode cX0_canClose 19 = .ok (.iconst 2, 1) := by decide +kernel
theorem dX0_canClose_20 : decode cX0_canClose 20 = .ok (.iload_n 1, 1) := by decide +kernel
theorem dX0_canClose_21 : decode cX0_canClose 21 = .ok (.bipush 99, 2) := by decide +kernel
theorem dX0_canClose_23 : decode cX0_canClose 23 = .ok (.iload_n 2, 1) := by decide +kernel
theorem dX0_canClose_24 : decode cX0_canClose 24 = .ok (.invokevirtual 82, 3) := by decide +kernel
theorem dX0_canClose_27 : decode cX0_canClose 27 = .ok (.ifCond .eq 7, 3) := by decide +kernel
theorem dX0_canClose_30 : decode cX0_canClose 30 = .ok (.iconst 1, 1) := by decide +kernel
theorem dX0_canClose_31 : decode cX0_canClose 31 = .ok (.goto 4, 3) := by decide +kernel
theorem dX0_canClose_34 : decode cX0_canClose 34 = .ok (.iconst 0, 1) := by decide +kernel
theorem dX0_canClose_35 : decode cX0_canClose 35 = .ok (.ireturn, 1) := by decide +kernel
set_option maxRecDepth 20000 in
theorem ggX0_hasWanting_X0_isOpen : GoodIn wsX0_hasWanting wsX0_isOpen := goodIn_r _ [7, 8, 9, 10, 11, 12, 13, 25, 26, 27, 28, 29, 30, 31] (by decide +kernel) (by decide +kernel)
set_option maxRecDepth 20000 in
theorem gX0_hasWanting_X0_isOpen : GoodIn wsX0_hasWanting (wsV RX0 63 RX0 yX0_isOpen wsX0_isOpen) := goodIn_app (goodIn_of _ (by decide +kernel)) ggX0_hasWanting_X0_isOpen
set_option maxRecDepth 20000 in
theorem ggX0_hasWanting_X0_isEmpty : GoodIn wsX0_hasWanting wsX0_isEmpty := goodIn_r _ [17, 18, 19, 9, 10, 11, 25, 26, 27, 28, 29, 30, 31] (by decide +kernel) (by decide +kernel)
set_option maxRecDepth 20000 in
theorem gX0_hasWanting_X0_isEmpty : GoodIn wsX0_hasWanting (wsV RX0 66 RX0 yX0_isEmpty wsX0_isEmpty) := goodIn_app (goodIn_of _ (by decide +kernel)) ggX0_hasWanting_X0_isEmpty
set_option maxRecDepth 20000 in
theorem ggX0_hasWanting_X0_isFor : GoodIn wsX0_hasWanting wsX0_isFor := goodIn_r _ [23, 18, 24, 9, 10, 11, 25, 26, 27, 28, 29, 30, 31] (by decide +kernel) (by decide +kernel)
set_option maxRecDepth 20000 in
theorem gX0_hasWanting_X0_isFor : GoodIn wsX0_hasWanting (wsV RX0 60 RX0 yX0_isFor wsX0_isFor) := goodIn_app (goodIn_of _ (by decide +kernel)) ggX0_hasWanting_X0_isFor
set_option maxRecDepth 20000 in
theorem ggX0_hasWanting_X3_at : GoodIn wsX0_hasWanting wsX3_at := goodIn_r _ [11] (by decide +kernel) (by decide +kernel)
set_option maxRecDepth 20000 in
theorem gX0_hasWanting_X3_at_n34 : GoodIn wsX0_hasWanting (wsX3_at) := ggX0_hasWanting_X3_at
theorem dX0_hasWanting_0 : decode cX0_hasWanting 0 = .ok (.iconst 0, 1) := by decide +kernel
theorem dX0_hasWanting_1 : decode cX0_hasWanting 1 = .ok (.istore 5, 2) := by decide +kernel
theorem dX0_hasWanting_3 : decode cX0_hasWanting 3 = .ok (.iload 5, 2) := by decide +kernel
theorem dX0_hasWanting_5 : decode cX0_hasWanting 5 = .ok (.aload_n 0, 1) := by decide +kernel
theorem dX0_hasWanting_6 : decode cX0_hasWanting 6 = .ok (.getfield 30, 3) := by decide +kernel
theorem dX0_hasWanting_9 : decode cX0_hasWanting 9 = .ok (.if_icmp .ge 67, 3) := by decide +kernel
theorem dX0_hasWanting_12 : decode cX0_hasWanting 12 = .ok (.aload_n 0, 1) := by decide +kernel
theorem dX0_hasWanting_13 : decode cX0_hasWanting 13 = .ok (.iload 5, 2) := by decide +kernel
theorem dX0_hasWanting_15 : decode cX0_hasWanting 15 = .ok (.iload 4, 2) := by decide +kernel
theorem dX0_hasWanting_17 : decode cX0_hasWanting 17 = .ok (.invokevirtual 63, 3) := by decide +kernel
theorem dX0_hasWanting_20 : decode cX0_hasWanting 20 = .ok (.ifCond .eq 16, 3) := by decide +kernel
theorem dX0_hasWanting_23 : decode cX0_hasWanting 23 = .ok (.aload_n 0, 1) := by decide +kernel
theorem dX0_hasWanting_24 : decode cX0_hasWanting 24 = .ok (.iload 5, 2) := by decide +kernel
theorem dX0_hasWanting_26 : decode cX0_hasWanting 26 = .ok (.invokevirtual 66, 3) := by decide +kernel
theorem dX0_hasWanting_29 : decode cX0_hasWanting 29 = .ok (.ifCond .eq 7, 3) := by decide +kernel
theorem dX0_hasWanting_32 : decode cX0_hasWanting 32 = .ok (.iconst 1, 1) := by decide +kernel
theorem dX0_hasWanting_33 : decode cX0_hasWanting 33 = .ok (.goto 4, 3) := by decide +kernel
theorem dX0_hasWanting_36 : decode cX0_hasWanting 36 = .ok (.iconst 0, 1) := by decide +kernel
theorem dX0_hasWanting_37 : decode cX0_hasWanting 37 = .ok (.istore 6, 2) := by decide +kernel
theorem dX0_hasWanting_39 : decode cX0_hasWanting 39 = .ok (.aload_n 0, 1) := by decide +kernel
theorem dX0_hasWanting_40 : decode cX0_hasWanting 40 = .ok (.iload 5, 2) := by decide +kernel
theorem dX0_hasWanting_42 : decode cX0_hasWanting 42 = .ok (.iload_n 1, 1) := by decide +kernel
theorem dX0_hasWanting_43 : decode cX0_hasWanting 43 = .ok (.iload_n 2, 1) := by decide +kernel
theorem dX0_hasWanting_44 : decode cX0_hasWanting 44 = .ok (.invokevirtual 60, 3) := by decide +kernel
theorem dX0_hasWanting_47 : decode cX0_hasWanting 47 = .ok (.ifCond .eq 23, 3) := by decide +kernel
theorem dX0_hasWanting_50 : decode cX0_hasWanting 50 = .ok (.iload 6, 2) := by decide +kernel
theorem dX0_hasWanting_52 : decode cX0_hasWanting 52 = .ok (.ifCond .eq 18, 3) := by decide +kernel
theorem dX0_hasWanting_55 : decode cX0_hasWanting 55 = .ok (.aload_n 0, 1) := by decide +kernel
theorem dX0_hasWanting_56 : decode cX0_hasWanting 56 = .ok (.getfield 21, 3) := by decide +kernel
theorem dX0_hasWanting_59 : decode cX0_hasWanting 59 = .ok (.iload 5, 2) := by decide +kernel
theorem dX0_hasWanting_61 : decode cX0_hasWanting 61 = .ok (.invokestatic 34, 3) := by decide +kernel
theorem dX0_hasWanting_64 : decode cX0_hasWanting 64 = .ok (.iload_n 3, 1) := by decide +kernel
theorem dX0_hasWanting_65 : decode cX0_hasWanting 65 = .ok (.if_icmp .gt 5, 3) := by decide +kernel
theorem dX0_hasWanting_68 : decode cX0_hasWanting 68 = .ok (.iconst 1, 1) := by decide +kernel
theorem dX0_hasWanting_69 : decode cX0_hasWanting 69 = .ok (.ireturn, 1) := by decide +kernel
theorem dX0_hasWanting_70 : decode cX0_hasWanting 70 = .ok (.iinc 5 1, 3) := by decide +kernel
theorem dX0_hasWanting_73 : decode cX0_hasWanting 73 = .ok (.goto (-70), 3) := by decide +kernel
theorem dX0_hasWanting_76 : decode cX0_hasWanting 76 = .ok (.iconst 0, 1) := by decide +kernel
theorem dX0_hasWanting_77 : decode cX0_hasWanting 77 = .ok (.ireturn, 1) := by decide +kernel
set_option maxRecDepth 20000 in
theorem ggX0_canCarry_X3_at : GoodIn wsX0_canCarry wsX3_at := goodIn_r _ [4] (by decide +kernel) (by decide +kernel)
set_option maxRecDepth 20000 in
theorem gX0_canCarry_X3_at_n34 : GoodIn wsX0_canCarry (wsX3_at) := ggX0_canCarry_X3_at
set_option maxRecDepth 20000 in
theorem ggX0_canCarry_X3_isInMask : GoodIn wsX0_canCarry wsX3_isInMask := goodIn_r _ [6] (by decide +kernel) (by decide +kernel)
set_option maxRecDepth 20000 in
theorem gX0_canCarry_X3_isInMask_n70 : GoodIn wsX0_canCarry (wsX3_isInMask) := ggX0_canCarry_X3_isInMask
set_option maxRecDepth 20000 in
theorem ggX0_canCarry_X0_has : GoodIn wsX0_canCarry wsX0_has := goodIn_r _ [11, 12, 13, 14, 15, 16, 17, 18, 19] (by decide +kernel) (by decide +kernel)
set_option maxRecDepth 20000 in
theorem gX0_canCarry_X0_has : GoodIn wsX0_canCarry (wsV RX0 86 RX0 yX0_has wsX0_has) := goodIn_app (goodIn_of _ (by decide +kernel)) ggX0_canCarry_X0_has
theorem dX0_canCarry_0 : decode cX0_canCarry 0 = .ok (.iconst 0, 1) := by decide +kernel
theorem dX0_canCarry_1 : decode cX0_canCarry 1 = .ok (.istore_n 2, 1) := by decide +kernel
theorem dX0_canCarry_2 : decode cX0_canCarry 2 = .ok (.iload_n 2, 1) := by decide +kernel
theorem dX0_canCarry_3 : decode cX0_canCarry 3 = .ok (.bipush 16, 2) := by decide +kernel
theorem dX0_canCarry_5 : decode cX0_canCarry 5 = .ok (.if_icmp .ge 60, 3) := by decide +kernel
theorem dX0_canCarry_8 : decode cX0_canCarry 8 = .ok (.aload_n 0, 1) := by decide +kernel
theorem dX0_canCarry_9 : decode cX0_canCarry 9 = .ok (.getfield 9, 3) := by decide +kernel
theorem dX0_canCarry_12 : decode cX0_canCarry 12 = .ok (.iload_n 2, 1) := by decide +kernel
theorem dX0_canCarry_13 : decode cX0_canCarry 13 = .ok (.invokestatic 34, 3) := by decide +kernel
theorem dX0_canCarry_16 : decode cX0_canCarry 16 = .ok (.ifCond .eq 15, 3) := by decide +kernel
theorem dX0_canCarry_19 : decode cX0_canCarry 19 = .ok (.aload_n 0, 1) := by decide +kernel
theorem dX0_canCarry_20 : decode cX0_canCarry 20 = .ok (.getfield 9, 3) := by decide +kernel
theorem dX0_canCarry_23 : decode cX0_canCarry 23 = .ok (.iload_n 2, 1) := by decide +kernel
theorem dX0_canCarry_24 : decode cX0_canCarry 24 = .ok (.invokestatic 34, 3) := by decide +kernel
theorem dX0_canCarry_27 : decode cX0_canCarry 27 = .ok (.iconst 3, 1) := by decide +kernel
theorem dX0_canCarry_28 : decode cX0_canCarry 28 = .ok (.if_icmp .ne 7, 3) := by decide +kernel
theorem dX0_canCarry_31 : decode cX0_canCarry 31 = .ok (.iconst 1, 1) := by decide +kernel
theorem dX0_canCarry_32 : decode cX0_canCarry 32 = .ok (.goto 4, 3) := by decide +kernel
theorem dX0_canCarry_35 : decode cX0_canCarry 35 = .ok (.iconst 0, 1) := by decide +kernel
theorem dX0_canCarry_36 : decode cX0_canCarry 36 = .ok (.istore_n 3, 1) := by decide +kernel
theorem dX0_canCarry_37 : decode cX0_canCarry 37 = .ok (.iload_n 2, 1) := by decide +kernel
theorem dX0_canCarry_38 : decode cX0_canCarry 38 = .ok (.iload_n 1, 1) := by decide +kernel
theorem dX0_canCarry_39 : decode cX0_canCarry 39 = .ok (.invokestatic 70, 3) := by decide +kernel
theorem dX0_canCarry_42 : decode cX0_canCarry 42 = .ok (.ifCond .eq 17, 3) := by decide +kernel
theorem dX0_canCarry_45 : decode cX0_canCarry 45 = .ok (.aload_n 0, 1) := by decide +kernel
theorem dX0_canCarry_46 : decode cX0_canCarry 46 = .ok (.iload_n 2, 1) := by decide +kernel
theorem dX0_canCarry_47 : decode cX0_canCarry 47 = .ok (.invokevirtual 86, 3) := by decide +kernel
theorem dX0_canCarry_50 : decode cX0_canCarry 50 = .ok (.ifCond .eq 7, 3) := by decide +kernel
theorem dX0_canCarry_53 : decode cX0_canCarry 53 = .ok (.iload_n 3, 1) := by decide +kernel
theorem dX0_canCarry_54 : decode cX0_canCarry 54 = .ok (.ifCond .ne 5, 3) := by decide +kernel
theorem dX0_canCarry_57 : decode cX0_canCarry 57 = .ok (.iconst 0, 1) := by decide +kernel
theorem dX0_canCarry_58 : decode cX0_canCarry 58 = .ok (.ireturn, 1) := by decide +kernel
theorem dX0_canCarry_59 : decode cX0_canCarry 59 = .ok (.iinc 2 1, 3) := by decide +kernel
theorem dX0_canCarry_62 : decode cX0_canCarry 62 = .ok (.goto (-60), 3) := by decide +kernel
theorem dX0_canCarry_65 : decode cX0_canCarry 65 = .ok (.iconst 1, 1) := by decide +kernel
theorem dX0_canCarry_66 : decode cX0_canCarry 66 = .ok (.ireturn, 1) := by decide +kernel
set_option maxRecDepth 20000 in
theorem ggX0_lastTotal_X3_at : GoodIn wsX0_lastTotal wsX3_at := goodIn_r _ [5] (by decide +kernel) (by decide +kernel)
set_option maxRecDepth 20000 in
theorem gX0_lastTotal_X3_at_n34 : GoodIn wsX0_lastTotal (wsX3_at) := ggX0_lastTotal_X3_at
theorem dX0_lastTotal_0 : decode cX0_lastTotal 0 = .ok (.aload_n 0, 1) := by decide +kernel
theorem dX0_lastTotal_1 : decode cX0_lastTotal 1 = .ok (.getfield 30, 3) := by decide +kernel
theorem dX0_lastTotal_4 : decode cX0_lastTotal 4 = .ok (.iconst 1, 1) := by decide +kernel
theorem dX0_lastTotal_5 : decode cX0_lastTotal 5 = .ok (.isub, 1) := by decide +kernel
theorem dX0_lastTotal_6 : decode cX0_lastTotal 6 = .ok (.istore_n 1, 1) := by decide +kernel
theorem dX0_lastTotal_7 : decode cX0_lastTotal 7 = .ok (.iload_n 1, 1) := by decide +kernel
theorem dX0_lastTotal_8 : decode cX0_lastTotal 8 = .ok (.ifCond .lt 23, 3) := by decide +kernel
theorem dX0_lastTotal_11 : decode cX0_lastTotal 11 = .ok (.aload_n 0, 1) := by decide +kernel
theorem dX0_lastTotal_12 : decode cX0_lastTotal 12 = .ok (.getfield 9, 3) := by decide +kernel
theorem dX0_lastTotal_15 : decode cX0_lastTotal 15 = .ok (.iload_n 1, 1) := by decide +kernel
theorem dX0_lastTotal_16 : decode cX0_lastTotal 16 = .ok (.invokestatic 34, 3) := by decide +kernel
theorem dX0_lastTotal_19 : decode cX0_lastTotal 19 = .ok (.iconst 3, 1) := by decide +kernel
theorem dX0_lastTotal_20 : decode cX0_lastTotal 20 = .ok (.if_icmp .ne 5, 3) := by decide +kernel
theorem dX0_lastTotal_23 : decode cX0_lastTotal 23 = .ok (.iload_n 1, 1) := by decide +kernel
theorem dX0_lastTotal_24 : decode cX0_lastTotal 24 = .ok (.ireturn, 1) := by decide +kernel
theorem dX0_lastTotal_25 : decode cX0_lastTotal 25 = .ok (.iinc 1 (-1), 3) := by decide +kernel
theorem dX0_lastTotal_28 : decode cX0_lastTotal 28 = .ok (.goto (-21), 3) := by decide +kernel
theorem dX0_lastTotal_31 : decode cX0_lastTotal 31 = .ok (.iconst (-1), 1) := by decide +kernel
theorem dX0_lastTotal_32 : decode cX0_lastTotal 32 = .ok (.ireturn, 1) := by decide +kernel
set_option maxRecDepth 20000 in
theorem ggX0_valueOf_X3_at : GoodIn wsX0_valueOf wsX3_at := goodIn_r _ [6] (by decide +kernel) (by decide +kernel)
set_option maxRecDepth 20000 in
theorem gX0_valueOf_X3_at_n34 : GoodIn wsX0_valueOf (wsX3_at) := ggX0_valueOf_X3_at
set_option maxRecDepth 20000 in
theorem ggX0_valueOf_X0_sumOf : GoodIn wsX0_valueOf wsX0_sumOf := goodIn_r _ [11, 12, 2, 13, 14, 15, 16, 17, 4, 5, 6, 18, 19, 20, 21, 22, 10, 23, 24, 36, 37, 38, 39, 40, 41, 42] (by decide +kernel) (by decide +kernel)
set_option maxRecDepth 20000 in
theorem gX0_valueOf_X0_sumOf : GoodIn wsX0_valueOf (wsV RX0 89 RX0 yX0_sumOf wsX0_sumOf) := goodIn_app (goodIn_of _ (by decide +kernel)) ggX0_valueOf_X0_sumOf
set_option maxRecDepth 20000 in
theorem ggX0_valueOf_X0_ownValue : GoodIn wsX0_valueOf wsX0_ownValue := goodIn_r _ [28, 3, 29, 4, 5, 6, 30, 31, 32, 10, 33, 36, 37, 38, 39, 40, 41, 42] (by decide +kernel) (by decide +kernel)
set_option maxRecDepth 20000 in
theorem gX0_valueOf_X0_ownValue : GoodIn wsX0_valueOf (wsV RX0 93 RX0 yX0_ownValue wsX0_ownValue) := goodIn_app (goodIn_of _ (by decide +kernel)) ggX0_valueOf_X0_ownValue
set_option maxRecDepth 20000 in
theorem ggX0_valueOf_X3_put : GoodIn wsX0_valueOf wsX3_put := goodIn_r _ [35] (by decide +kernel) (by decide +kernel)
set_option maxRecDepth 20000 in
theorem gX0_valueOf_X3_put_n38 : GoodIn wsX0_valueOf (wsX3_put) := ggX0_valueOf_X3_put
theorem dX0_valueOf_0 : decode cX0_valueOf 0 = .ok (.iconst 0, 1) := by decide +kernel
theorem dX0_valueOf_1 : decode cX0_valueOf 1 = .ok (.istore_n 3, 1) := by decide +kernel
theorem dX0_valueOf_2 : decode cX0_valueOf 2 = .ok (.iload_n 3, 1) := by decide +kernel
theorem dX0_valueOf_3 : decode cX0_valueOf 3 = .ok (.iload_n 1, 1) := by decide +kernel
theorem dX0_valueOf_4 : decode cX0_valueOf 4 = .ok (.if_icmp .gt 51, 3) := by decide +kernel
theorem dX0_valueOf_7 : decode cX0_valueOf 7 = .ok (.iload_n 3, 1) := by decide +kernel
theorem dX0_valueOf_8 : decode cX0_valueOf 8 = .ok (.aload_n 0, 1) := by decide +kernel
theorem dX0_valueOf_9 : decode cX0_valueOf 9 = .ok (.getfield 30, 3) := by decide +kernel
theorem dX0_valueOf_12 : decode cX0_valueOf 12 = .ok (.if_icmp .ge 43, 3) := by decide +kernel
theorem dX0_valueOf_15 : decode cX0_valueOf 15 = .ok (.aload_n 0, 1) := by decide +kernel
theorem dX0_valueOf_16 : decode cX0_valueOf 16 = .ok (.getfield 27, 3) := by decide +kernel
theorem dX0_valueOf_19 : decode cX0_valueOf 19 = .ok (.iload_n 3, 1) := by decide +kernel
theorem dX0_valueOf_20 : decode cX0_valueOf 20 = .ok (.aload_n 0, 1) := by decide +kernel
theorem dX0_valueOf_21 : decode cX0_valueOf 21 = .ok (.getfield 9, 3) := by decide +kernel
theorem dX0_valueOf_24 : decode cX0_valueOf 24 = .ok (.iload_n 3, 1) := by decide +kernel
theorem dX0_valueOf_25 : decode cX0_valueOf 25 = .ok (.invokestatic 34, 3) := by decide +kernel
theorem dX0_valueOf_28 : decode cX0_valueOf 28 = .ok (.iconst 3, 1) := by decide +kernel
theorem dX0_valueOf_29 : decode cX0_valueOf 29 = .ok (.if_icmp .ne 12, 3) := by decide +kernel
theorem dX0_valueOf_32 : decode cX0_valueOf 32 = .ok (.aload_n 0, 1) := by decide +kernel
theorem dX0_valueOf_33 : decode cX0_valueOf 33 = .ok (.iload_n 3, 1) := by decide +kernel
theorem dX0_valueOf_34 : decode cX0_valueOf 34 = .ok (.iload_n 2, 1) := by decide +kernel
theorem dX0_valueOf_35 : decode cX0_valueOf 35 = .ok (.invokevirtual 89, 3) := by decide +kernel
theorem dX0_valueOf_38 : decode cX0_valueOf 38 = .ok (.goto 8, 3) := by decide +kernel
theorem dX0_valueOf_41 : decode cX0_valueOf 41 = .ok (.aload_n 0, 1) := by decide +kernel
theorem dX0_valueOf_42 : decode cX0_valueOf 42 = .ok (.iload_n 3, 1) := by decide +kernel
theorem dX0_valueOf_43 : decode cX0_valueOf 43 = .ok (.invokevirtual 93, 3) := by decide +kernel
theorem dX0_valueOf_46 : decode cX0_valueOf 46 = .ok (.invokestatic 38, 3) := by decide +kernel
theorem dX0_valueOf_49 : decode cX0_valueOf 49 = .ok (.iinc 3 1, 3) := by decide +kernel
theorem dX0_valueOf_52 : decode cX0_valueOf 52 = .ok (.goto (-50), 3) := by decide +kernel
theorem dX0_valueOf_55 : decode cX0_valueOf 55 = .ok (.aload_n 0, 1) := by decide +kernel
theorem dX0_valueOf_56 : decode cX0_valueOf 56 = .ok (.getfield 27, 3) := by decide +kernel
theorem dX0_valueOf_59 : decode cX0_valueOf 59 = .ok (.iload_n 1, 1) := by decide +kernel
theorem dX0_valueOf_60 : decode cX0_valueOf 60 = .ok (.invokestatic 34, 3) := by decide +kernel
theorem dX0_valueOf_63 : decode cX0_valueOf 63 = .ok (.ireturn, 1) := by decide +kernel
set_option maxRecDepth 20000 in
theorem ggX0_ownValue_X3_at : GoodIn wsX0_ownValue wsX3_at := goodIn_r _ [5] (by decide +kernel) (by decide +kernel)
set_option maxRecDepth 20000 in
theorem gX0_ownValue_X3_at_n34 : GoodIn wsX0_ownValue (wsX3_at) := ggX0_ownValue_X3_at
set_option maxRecDepth 20000 in
theorem ggX0_ownValue_X0_isEmpty : GoodIn wsX0_ownValue wsX0_isEmpty := goodIn_r _ [10, 1, 2, 3, 4, 5, 11, 12, 13, 14, 15, 16, 17] (by decide +kernel) (by decide +kernel)
set_option maxRecDepth 20000 in
theorem gX0_ownValue_X0_isEmpty : GoodIn wsX0_ownValue (wsV RX0 66 RX0 yX0_isEmpty wsX0_isEmpty) := goodIn_app (goodIn_of _ (by decide +kernel)) ggX0_ownValue_X0_isEmpty
theorem dX0_ownValue_0 : decode cX0_ownValue 0 = .ok (.aload_n 0, 1) := by decide +kernel
theorem dX0_ownValue_1 : decode cX0_ownValue 1 = .ok (.getfield 9, 3) := by decide +kernel
theorem dX0_ownValue_4 : decode cX0_ownValue 4 = .ok (.iload_n 1, 1) := by decide +kernel
theorem dX0_ownValue_5 : decode cX0_ownValue 5 = .ok (.invokestatic 34, 3) := by decide +kernel
theorem dX0_ownValue_8 : decode cX0_ownValue 8 = .ok (.ifCond .eq 5, 3) := by decide +kernel
theorem dX0_ownValue_11 : decode cX0_ownValue 11 = .ok (.iconst (-1), 1) := by decide +kernel
theorem dX0_ownValue_12 : decode cX0_ownValue 12 = .ok (.ireturn, 1) := by decide +kernel
theorem dX0_ownValue_13 : decode cX0_ownValue 13 = .ok (.aload_n 0, 1) := by decide +kernel
theorem dX0_ownValue_14 : decode cX0_ownValue 14 = .ok (.iload_n 1, 1) := by decide +kernel
theorem dX0_ownValue_15 : decode cX0_ownValue 15 = .ok (.invokevirtual 66, 3) := by decide +kernel
theorem dX0_ownValue_18 : decode cX0_ownValue 18 = .ok (.ifCond .eq 7, 3) := by decide +kernel
theorem dX0_ownValue_21 : decode cX0_ownValue 21 = .ok (.iconst 0, 1) := by decide +kernel
theorem dX0_ownValue_22 : decode cX0_ownValue 22 = .ok (.goto 11, 3) := by decide +kernel
theorem dX0_ownValue_25 : decode cX0_ownValue 25 = .ok (.aload_n 0, 1) := by decide +kernel
theorem dX0_ownValue_26 : decode cX0_ownValue 26 = .ok (.getfield 24, 3) := by decide +kernel
theorem dX0_ownValue_29 : decode cX0_ownValue 29 = .ok (.iload_n 1, 1) := by decide +kernel
theorem dX0_ownValue_30 : decode cX0_ownValue 30 = .ok (.invokestatic 34, 3) := by decide +kernel
theorem dX0_ownValue_33 : decode cX0_ownValue 33 = .ok (.ireturn, 1) := by decide +kernel
set_option maxRecDepth 20000 in
theorem ggX0_sumOf_X3_at : GoodIn wsX0_sumOf wsX3_at := goodIn_r _ [10] (by decide +kernel) (by decide +kernel)
set_option maxRecDepth 20000 in
theorem gX0_sumOf_X3_at_n34 : GoodIn wsX0_sumOf (wsX3_at) := ggX0_sumOf_X3_at
set_option maxRecDepth 20000 in
theorem ggX0_sumOf_X3_isInMask : GoodIn wsX0_sumOf wsX3_isInMask := goodIn_r _ [12] (by decide +kernel) (by decide +kernel)
set_option maxRecDepth 20000 in
theorem gX0_sumOf_X3_isInMask_n70 : GoodIn wsX0_sumOf (wsX3_isInMask) := ggX0_sumOf_X3_isInMask
set_option maxRecDepth 20000 in
theorem ggX0_sumOf_X0_isOpen : GoodIn wsX0_sumOf wsX0_isOpen := goodIn_r _ [17, 18, 8, 9, 10, 11, 12, 19, 20, 21, 22, 23, 24, 25] (by decide +kernel) (by decide +kernel)
set_option maxRecDepth 20000 in
theorem gX0_sumOf_X0_isOpen : GoodIn wsX0_sumOf (wsV RX0 63 RX0 yX0_isOpen wsX0_isOpen) := goodIn_app (goodIn_of _ (by decide +kernel)) ggX0_sumOf_X0_isOpen
theorem dX0_sumOf_0 : decode cX0_sumOf 0 = .ok (.iconst 0, 1) := by decide +kernel
theorem dX0_sumOf_1 : decode cX0_sumOf 1 = .ok (.istore_n 3, 1) := by decide +kernel
theorem dX0_sumOf_2 : decode cX0_sumOf 2 = .ok (.iconst 0, 1) := by decide +kernel
theorem dX0_sumOf_3 : decode cX0_sumOf 3 = .ok (.istore 4, 2) := by decide +kernel
theorem dX0_sumOf_5 : decode cX0_sumOf 5 = .ok (.iload 4, 2) := by decide +kernel
theorem dX0_sumOf_7 : decode cX0_sumOf 7 = .ok (.iload_n 1, 1) := by decide +kernel
theorem dX0_sumOf_8 : decode cX0_sumOf 8 = .ok (.if_icmp .ge 47, 3) := by decide +kernel
theorem dX0_sumOf_11 : decode cX0_sumOf 11 = .ok (.iload 4, 2) := by decide +kernel
theorem dX0_sumOf_13 : decode cX0_sumOf 13 = .ok (.aload_n 0, 1) := by decide +kernel
theorem dX0_sumOf_14 : decode cX0_sumOf 14 = .ok (.getfield 18, 3) := by decide +kernel
theorem dX0_sumOf_17 : decode cX0_sumOf 17 = .ok (.iload_n 1, 1) := by decide +kernel
theorem dX0_sumOf_18 : decode cX0_sumOf 18 = .ok (.invokestatic 34, 3) := by decide +kernel
theorem dX0_sumOf_21 : decode cX0_sumOf 21 = .ok (.invokestatic 70, 3) := by decide +kernel
theorem dX0_sumOf_24 : decode cX0_sumOf 24 = .ok (.ifCond .eq 25, 3) := by decide +kernel
theorem dX0_sumOf_27 : decode cX0_sumOf 27 = .ok (.aload_n 0, 1) := by decide +kernel
theorem dX0_sumOf_28 : decode cX0_sumOf 28 = .ok (.iload 4, 2) := by decide +kernel
theorem dX0_sumOf_30 : decode cX0_sumOf 30 = .ok (.iload_n 2, 1) := by decide +kernel
theorem dX0_sumOf_31 : decode cX0_sumOf 31 = .ok (.invokevirtual 63, 3) := by decide +kernel
theorem dX0_sumOf_34 : decode cX0_sumOf 34 = .ok (.ifCond .eq 15, 3) := by decide +kernel
theorem dX0_sumOf_37 : decode cX0_sumOf 37 = .ok (.iload_n 3, 1) := by decide +kernel
theorem dX0_sumOf_38 : decode cX0_sumOf 38 = .ok (.aload_n 0, 1) := by decide +kernel
theorem dX0_sumOf_39 : decode cX0_sumOf 39 = .ok (.getfield 27, 3) := by decide +kernel
theorem dX0_sumOf_42 : decode cX0_sumOf 42 = .ok (.iload 4, 2) := by decide +kernel
theorem dX0_sumOf_44 : decode cX0_sumOf 44 = .ok (.invokestatic 34, 3) := by decide +kernel
theorem dX0_sumOf_47 : decode cX0_sumOf 47 = .ok (.iadd, 1) := by decide +kernel
theorem dX0_sumOf_48 : decode cX0_sumOf 48 = .ok (.istore_n 3, 1) := by decide +kernel
theorem dX0_sumOf_49 : decode cX0_sumOf 49 = .ok (.iinc 4 1, 3) := by decide +kernel
theorem dX0_sumOf_52 : decode cX0_sumOf 52 = .ok (.goto (-47), 3) := by decide +kernel
theorem dX0_sumOf_55 : decode cX0_sumOf 55 = .ok (.iload_n 3, 1) := by decide +kernel
theorem dX0_sumOf_56 : decode cX0_sumOf 56 = .ok (.ldc 96, 2) := by decide +kernel
theorem dX0_sumOf_58 : decode cX0_sumOf 58 = .ok (.invokestatic 97, 3) := by decide +kernel
theorem dX0_sumOf_61 : decode cX0_sumOf 61 = .ok (.ireturn, 1) := by decide +kernel
set_option maxRecDepth 20000 in
theorem ggX0_totalsOver_X3_at : GoodIn wsX0_totalsOver wsX3_at := goodIn_r _ [6] (by decide +kernel) (by decide +kernel)
set_option maxRecDepth 20000 in
theorem gX0_totalsOver_X3_at_n34 : GoodIn wsX0_totalsOver (wsX3_at) := ggX0_totalsOver_X3_at
set_option maxRecDepth 20000 in
theorem ggX0_totalsOver_X3_isInMask : GoodIn wsX0_totalsOver wsX3_isInMask := goodIn_r _ [8] (by decide +kernel) (by decide +kernel)
set_option maxRecDepth 20000 in
theorem gX0_totalsOver_X3_isInMask_n70 : GoodIn wsX0_totalsOver (wsX3_isInMask) := ggX0_totalsOver_X3_isInMask
set_option maxRecDepth 20000 in
theorem ggX0_totalsOver_J6_bitCount_0f7a4 : GoodIn wsX0_totalsOver wsJ6_bitCount_0f7a4 := goodIn_r _ [12, 13, 14, 15] (by decide +kernel) (by decide +kernel)
set_option maxRecDepth 20000 in
theorem gX0_totalsOver_J6_bitCount_0f7a4 : GoodIn wsX0_totalsOver (va_wsS RX0 102 yJ6_bitCount_0f7a4 wsJ6_bitCount_0f7a4) := goodIn_app (goodIn_of _ (by decide +kernel)) ggX0_totalsOver_J6_bitCount_0f7a4
theorem dX0_totalsOver_0 : decode cX0_totalsOver 0 = .ok (.iconst 0, 1) := by decide +kernel
theorem dX0_totalsOver_1 : decode cX0_totalsOver 1 = .ok (.istore_n 2, 1) := by decide +kernel
theorem dX0_totalsOver_2 : decode cX0_totalsOver 2 = .ok (.iload_n 1, 1) := by decide +kernel
theorem dX0_totalsOver_3 : decode cX0_totalsOver 3 = .ok (.iconst 1, 1) := by decide +kernel
theorem dX0_totalsOver_4 : decode cX0_totalsOver 4 = .ok (.iadd, 1) := by decide +kernel
theorem dX0_totalsOver_5 : decode cX0_totalsOver 5 = .ok (.istore_n 3, 1) := by decide +kernel
theorem dX0_totalsOver_6 : decode cX0_totalsOver 6 = .ok (.iload_n 3, 1) := by decide +kernel
theorem dX0_totalsOver_7 : decode cX0_totalsOver 7 = .ok (.aload_n 0, 1) := by decide +kernel
theorem dX0_totalsOver_8 : decode cX0_totalsOver 8 = .ok (.getfield 30, 3) := by decide +kernel
theorem dX0_totalsOver_11 : decode cX0_totalsOver 11 = .ok (.if_icmp .ge 65, 3) := by decide +kernel
theorem dX0_totalsOver_14 : decode cX0_totalsOver 14 = .ok (.aload_n 0, 1) := by decide +kernel
theorem dX0_totalsOver_15 : decode cX0_totalsOver 15 = .ok (.getfield 18, 3) := by decide +kernel
theorem dX0_totalsOver_18 : decode cX0_totalsOver 18 = .ok (.iload_n 3, 1) := by decide +kernel
theorem dX0_totalsOver_19 : decode cX0_totalsOver 19 = .ok (.invokestatic 34, 3) := by decide +kernel
theorem dX0_totalsOver_22 : decode cX0_totalsOver 22 = .ok (.istore 4, 2) := by decide +kernel
theorem dX0_totalsOver_24 : decode cX0_totalsOver 24 = .ok (.iload_n 1, 1) := by decide +kernel
theorem dX0_totalsOver_25 : decode cX0_totalsOver 25 = .ok (.iload 4, 2) := by decide +kernel
theorem dX0_totalsOver_27 : decode cX0_totalsOver 27 = .ok (.invokestatic 70, 3) := by decide +kernel
theorem dX0_totalsOver_30 : decode cX0_totalsOver 30 = .ok (.ifCond .ne 10, 3) := by decide +kernel
theorem dX0_totalsOver_33 : decode cX0_totalsOver 33 = .ok (.iload 4, 2) := by decide +kernel
theorem dX0_totalsOver_35 : decode cX0_totalsOver 35 = .ok (.iload_n 2, 1) := by decide +kernel
theorem dX0_totalsOver_36 : decode cX0_totalsOver 36 = .ok (.iand, 1) := by decide +kernel
theorem dX0_totalsOver_37 : decode cX0_totalsOver 37 = .ok (.ifCond .eq 7, 3) := by decide +kernel
theorem dX0_totalsOver_40 : decode cX0_totalsOver 40 = .ok (.iconst 1, 1) := by decide +kernel
theorem dX0_totalsOver_41 : decode cX0_totalsOver 41 = .ok (.goto 4, 3) := by decide +kernel
theorem dX0_totalsOver_44 : decode cX0_totalsOver 44 = .ok (.iconst 0, 1) := by decide +kernel
theorem dX0_totalsOver_45 : decode cX0_totalsOver 45 = .ok (.istore 5, 2) := by decide +kernel
theorem dX0_totalsOver_47 : decode cX0_totalsOver 47 = .ok (.aload_n 0, 1) := by decide +kernel
theorem dX0_totalsOver_48 : decode cX0_totalsOver 48 = .ok (.getfield 9, 3) := by decide +kernel
theorem dX0_totalsOver_51 : decode cX0_totalsOver 51 = .ok (.iload_n 3, 1) := by decide +kernel
theorem dX0_totalsOver_52 : decode cX0_totalsOver 52 = .ok (.invokestatic 34, 3) := by decide +kernel
theorem dX0_totalsOver_55 : decode cX0_totalsOver 55 = .ok (.iconst 3, 1) := by decide +kernel
theorem dX0_totalsOver_56 : decode cX0_totalsOver 56 = .ok (.if_icmp .ne 14, 3) := by decide +kernel
theorem dX0_totalsOver_59 : decode cX0_totalsOver 59 = .ok (.iload 5, 2) := by decide +kernel
theorem dX0_totalsOver_61 : decode cX0_totalsOver 61 = .ok (.ifCond .eq 9, 3) := by decide +kernel
theorem dX0_totalsOver_64 : decode cX0_totalsOver 64 = .ok (.iload_n 2, 1) := by decide +kernel
theorem dX0_totalsOver_65 : decode cX0_totalsOver 65 = .ok (.iconst 1, 1) := by decide +kernel
theorem dX0_totalsOver_66 : decode cX0_totalsOver 66 = .ok (.iload_n 3, 1) := by decide +kernel
theorem dX0_totalsOver_67 : decode cX0_totalsOver 67 = .ok (.ishl, 1) := by decide +kernel
theorem dX0_totalsOver_68 : decode cX0_totalsOver 68 = .ok (.ior, 1) := by decide +kernel
theorem dX0_totalsOver_69 : decode cX0_totalsOver 69 = .ok (.istore_n 2, 1) := by decide +kernel
theorem dX0_totalsOver_70 : decode cX0_totalsOver 70 = .ok (.iinc 3 1, 3) := by decide +kernel
theorem dX0_totalsOver_73 : decode cX0_totalsOver 73 = .ok (.goto (-67), 3) := by decide +kernel
theorem dX0_totalsOver_76 : decode cX0_totalsOver 76 = .ok (.iload_n 2, 1) := by decide +kernel
theorem dX0_totalsOver_77 : decode cX0_totalsOver 77 = .ok (.invokestatic 102, 3) := by decide +kernel
theorem dX0_totalsOver_80 : decode cX0_totalsOver 80 = .ok (.ireturn, 1) := by decide +kernel
set_option maxRecDepth 20000 in
theorem ggX1_init_X0_init : GoodIn wsX1_init wsX0_init := goodIn_r _ [9, 10, 2, 3, 11, 12, 13, 14, 15, 16, 17, 21, 22, 23, 24, 25, 26, 27] (by decide +kernel) (by decide +kernel)
set_option maxRecDepth 20000 in
theorem gX1_init_X0_init_n17 : GoodIn wsX1_init (wsX0_init) := ggX1_init_X0_init
theorem dX1_init_0 : decode cX1_init 0 = .ok (.aload_n 0, 1) := by decide +kernel
theorem dX1_init_1 : decode cX1_init 1 = .ok (.invokespecial 3, 3) := by decide +kernel
theorem dX1_init_4 : decode cX1_init 4 = .ok (.aload_n 0, 1) := by decide +kernel
theorem dX1_init_5 : decode cX1_init 5 = .ok (.bipush 6, 2) := by decide +kernel
theorem dX1_init_7 : decode cX1_init 7 = .ok (.anewarray 9, 3) := by decide +kernel
theorem dX1_init_10 : decode cX1_init 10 = .ok (.putfield 11, 3) := by decide +kernel
theorem dX1_init_13 : decode cX1_init 13 = .ok (.iconst 0, 1) := by decide +kernel
theorem dX1_init_14 : decode cX1_init 14 = .ok (.istore_n 1, 1) := by decide +kernel
theorem dX1_init_15 : decode cX1_init 15 = .ok (.iload_n 1, 1) := by decide +kernel
theorem dX1_init_16 : decode cX1_init 16 = .ok (.aload_n 0, 1) := by decide +kernel
theorem dX1_init_17 : decode cX1_init 17 = .ok (.getfield 11, 3) := by decide +kernel
theorem dX1_init_20 : decode cX1_init 20 = .ok (.arraylength, 1) := by decide +kernel
theorem dX1_init_21 : decode cX1_init 21 = .ok (.if_icmp .ge 22, 3) := by decide +kernel
theorem dX1_init_24 : decode cX1_init 24 = .ok (.aload_n 0, 1) := by decide +kernel
theorem dX1_init_25 : decode cX1_init 25 = .ok (.getfield 11, 3) := by decide +kernel
theorem dX1_init_28 : decode cX1_init 28 = .ok (.iload_n 1, 1) := by decide +kernel
theorem dX1_init_29 : decode cX1_init 29 = .ok (.new 9, 3) := by decide +kernel
theorem dX1_init_32 : decode cX1_init 32 = .ok (.dup, 1) := by decide +kernel
theorem dX1_init_33 : decode cX1_init 33 = .ok (.invokespecial 17, 3) := by decide +kernel
theorem dX1_init_36 : decode cX1_init 36 = .ok (.aastore, 1) := by decide +kernel
theorem dX1_init_37 : decode cX1_init 37 = .ok (.iinc 1 1, 3) := by decide +kernel
theorem dX1_init_40 : decode cX1_init 40 = .ok (.goto (-25), 3) := by decide +kernel
theorem dX1_init_43 : decode cX1_init 43 = .ok (.return_, 1) := by decide +kernel
theorem dX1_size_0 : decode cX1_size 0 = .ok (.aload_n 0, 1) := by decide +kernel
theorem dX1_size_1 : decode cX1_size 1 = .ok (.getfield 18, 3) := by decide +kernel
theorem dX1_size_4 : decode cX1_size 4 = .ok (.ireturn, 1) := by decide +kernel
set_option maxRecDepth 20000 in
theorem ggX1_save_X1_stateAt : GoodIn wsX1_save wsX1_stateAt := goodIn_r _ [11, 12, 28, 29, 30] (by decide +kernel) (by decide +kernel)
set_option maxRecDepth 20000 in
theorem gX1_save_X1_stateAt : GoodIn wsX1_save (wsV RX1 25 RX1 yX1_stateAt wsX1_stateAt) := goodIn_app (goodIn_of _ (by decide +kernel)) ggX1_save_X1_stateAt
set_option maxRecDepth 20000 in
theorem ggX1_save_X0_copyFrom : GoodIn wsX1_save wsX0_copyFrom := goodIn_r _ [16, 17, 18, 19, 20, 21, 22, 23, 24, 25, 26, 27, 31, 32, 33, 34, 35, 36, 37] (by decide +kernel) (by decide +kernel)
set_option maxRecDepth 20000 in
theorem gX1_save_X0_copyFrom_n29 : GoodIn wsX1_save (wsX0_copyFrom) := ggX1_save_X0_copyFrom
theorem dX1_save_0 : decode cX1_save 0 = .ok (.aload_n 0, 1) := by decide +kernel
theorem dX1_save_1 : decode cX1_save 1 = .ok (.aload_n 0, 1) := by decide +kernel
theorem dX1_save_2 : decode cX1_save 2 = .ok (.getfield 22, 3) := by decide +kernel
theorem dX1_save_5 : decode cX1_save 5 = .ok (.invokevirtual 25, 3) := by decide +kernel
theorem dX1_save_8 : decode cX1_save 8 = .ok (.astore_n 2, 1) := by decide +kernel
theorem dX1_save_9 : decode cX1_save 9 = .ok (.aload_n 2, 1) := by decide +kernel
theorem dX1_save_10 : decode cX1_save 10 = .ok (.ifnull 8, 3) := by decide +kernel
theorem dX1_save_13 : decode cX1_save 13 = .ok (.aload_n 2, 1) := by decide +kernel
theorem dX1_save_14 : decode cX1_save 14 = .ok (.aload_n 1, 1) := by decide +kernel
theorem dX1_save_15 : decode cX1_save 15 = .ok (.invokevirtual 29, 3) := by decide +kernel
theorem dX1_save_18 : decode cX1_save 18 = .ok (.aload_n 0, 1) := by decide +kernel
theorem dX1_save_19 : decode cX1_save 19 = .ok (.aload_n 0, 1) := by decide +kernel
theorem dX1_save_20 : decode cX1_save 20 = .ok (.getfield 22, 3) := by decide +kernel
theorem dX1_save_23 : decode cX1_save 23 = .ok (.iconst 1, 1) := by decide +kernel
theorem dX1_save_24 : decode cX1_save 24 = .ok (.iadd, 1) := by decide +kernel
theorem dX1_save_25 : decode cX1_save 25 = .ok (.bipush 6, 2) := by decide +kernel
theorem dX1_save_27 : decode cX1_save 27 = .ok (.if_icmp .ge 12, 3) := by decide +kernel
theorem dX1_save_30 : decode cX1_save 30 = .ok (.aload_n 0, 1) := by decide +kernel
theorem dX1_save_31 : decode cX1_save 31 = .ok (.getfield 22, 3) := by decide +kernel
theorem dX1_save_34 : decode cX1_save 34 = .ok (.iconst 1, 1) := by decide +kernel
theorem dX1_save_35 : decode cX1_save 35 = .ok (.iadd, 1) := by decide +kernel
theorem dX1_save_36 : decode cX1_save 36 = .ok (.goto 4, 3) := by decide +kernel
theorem dX1_save_39 : decode cX1_save 39 = .ok (.iconst 0, 1) := by decide +kernel
theorem dX1_save_40 : decode cX1_save 40 = .ok (.putfield 22, 3) := by decide +kernel
theorem dX1_save_43 : decode cX1_save 43 = .ok (.aload_n 0, 1) := by decide +kernel
theorem dX1_save_44 : decode cX1_save 44 = .ok (.aload_n 0, 1) := by decide +kernel
theorem dX1_save_45 : decode cX1_save 45 = .ok (.getfield 18, 3) := by decide +kernel
theorem dX1_save_48 : decode cX1_save 48 = .ok (.iconst 1, 1) := by decide +kernel
theorem dX1_save_49 : decode cX1_save 49 = .ok (.iadd, 1) := by decide +kernel
theorem dX1_save_50 : decode cX1_save 50 = .ok (.bipush 6, 2) := by decide +kernel
theorem dX1_save_52 : decode cX1_save 52 = .ok (.invokestatic 33, 3) := by decide +kernel
theorem dX1_save_55 : decode cX1_save 55 = .ok (.putfield 18, 3) := by decide +kernel
theorem dX1_save_58 : decode cX1_save 58 = .ok (.return_, 1) := by decide +kernel
set_option maxRecDepth 20000 in
theorem ggX1_restore_X1_stateAt : GoodIn wsX1_restore wsX1_stateAt := goodIn_r _ [7, 8, 24, 25, 26] (by decide +kernel) (by decide +kernel)
set_option maxRecDepth 20000 in
theorem gX1_restore_X1_stateAt : GoodIn wsX1_restore (wsV RX1 25 RX1 yX1_stateAt wsX1_stateAt) := goodIn_app (goodIn_of _ (by decide +kernel)) ggX1_restore_X1_stateAt
set_option maxRecDepth 20000 in
theorem ggX1_restore_X0_copyFrom : GoodIn wsX1_restore wsX0_copyFrom := goodIn_r _ [12, 13, 14, 15, 16, 17, 18, 19, 20, 21, 22, 23, 27, 28, 29, 30, 31, 32, 33] (by decide +kernel) (by decide +kernel)
set_option maxRecDepth 20000 in
theorem gX1_restore_X0_copyFrom_n29 : GoodIn wsX1_restore (wsX0_copyFrom) := ggX1_restore_X0_copyFrom
theorem dX1_restore_0 : decode cX1_restore 0 = .ok (.aload_n 0, 1) := by decide +kernel
theorem dX1_restore_1 : decode cX1_restore 1 = .ok (.aload_n 0, 1) := by decide +kernel
theorem dX1_restore_2 : decode cX1_restore 2 = .ok (.getfield 22, 3) := by decide +kernel
theorem dX1_restore_5 : decode cX1_restore 5 = .ok (.ifCond .le 12, 3) := by decide +kernel
theorem dX1_restore_8 : decode cX1_restore 8 = .ok (.aload_n 0, 1) := by decide +kernel
theorem dX1_restore_9 : decode cX1_restore 9 = .ok (.getfield 22, 3) := by decide +kernel
theorem dX1_restore_12 : decode cX1_restore 12 = .ok (.iconst 1, 1) := by decide +kernel
theorem dX1_restore_13 : decode cX1_restore 13 = .ok (.isub, 1) := by decide +kernel
theorem dX1_restore_14 : decode cX1_restore 14 = .ok (.goto 4, 3) := by decide +kernel
theorem dX1_restore_17 : decode cX1_restore 17 = .ok (.iconst 5, 1) := by decide +kernel
theorem dX1_restore_18 : decode cX1_restore 18 = .ok (.putfield 22, 3) := by decide +kernel
theorem dX1_restore_21 : decode cX1_restore 21 = .ok (.aload_n 0, 1) := by decide +kernel
theorem dX1_restore_22 : decode cX1_restore 22 = .ok (.dup, 1) := by decide +kernel
theorem dX1_restore_23 : decode cX1_restore 23 = .ok (.getfield 18, 3) := by decide +kernel
theorem dX1_restore_26 : decode cX1_restore 26 = .ok (.iconst 1, 1) := by decide +kernel
theorem dX1_restore_27 : decode cX1_restore 27 = .ok (.isub, 1) := by decide +kernel
theorem dX1_restore_28 : decode cX1_restore 28 = .ok (.putfield 18, 3) := by decide +kernel
theorem dX1_restore_31 : decode cX1_restore 31 = .ok (.aload_n 0, 1) := by decide +kernel
theorem dX1_restore_32 : decode cX1_restore 32 = .ok (.aload_n 0, 1) := by decide +kernel
theorem dX1_restore_33 : decode cX1_restore 33 = .ok (.getfield 22, 3) := by decide +kernel
theorem dX1_restore_36 : decode cX1_restore 36 = .ok (.invokevirtual 25, 3) := by decide +kernel
theorem dX1_restore_39 : decode cX1_restore 39 = .ok (.astore_n 2, 1) := by decide +kernel
theorem dX1_restore_40 : decode cX1_restore 40 = .ok (.aload_n 2, 1) := by decide +kernel
theorem dX1_restore_41 : decode cX1_restore 41 = .ok (.ifnull 8, 3) := by decide +kernel
theorem dX1_restore_44 : decode cX1_restore 44 = .ok (.aload_n 1, 1) := by decide +kernel
theorem dX1_restore_45 : decode cX1_restore 45 = .ok (.aload_n 2, 1) := by decide +kernel
theorem dX1_restore_46 : decode cX1_restore 46 = .ok (.invokevirtual 29, 3) := by decide +kernel
theorem dX1_restore_49 : decode cX1_restore 49 = .ok (.return_, 1) := by decide +kernel
theorem dX1_stateAt_0 : decode cX1_stateAt 0 = .ok (.iload_n 1, 1) := by decide +kernel
theorem dX1_stateAt_1 : decode cX1_stateAt 1 = .ok (.ifCond .lt 21, 3) := by decide +kernel
theorem dX1_stateAt_4 : decode cX1_stateAt 4 = .ok (.iload_n 1, 1) := by decide +kernel
theorem dX1_stateAt_5 : decode cX1_stateAt 5 = .ok (.aload_n 0, 1) := by decide +kernel
theorem dX1_stateAt_6 : decode cX1_stateAt 6 = .ok (.getfield 11, 3) := by decide +kernel
theorem dX1_stateAt_9 : decode cX1_stateAt 9 = .ok (.arraylength, 1) := by decide +kernel
theorem dX1_stateAt_10 : decode cX1_stateAt 10 = .ok (.if_icmp .ge 12, 3) := by decide +kernel
theorem dX1_stateAt_13 : decode cX1_stateAt 13 = .ok (.aload_n 0, 1) := by decide +kernel
theorem dX1_stateAt_14 : decode cX1_stateAt 14 = .ok (.getfield 11, 3) := by decide +kernel
theorem dX1_stateAt_17 : decode cX1_stateAt 17 = .ok (.iload_n 1, 1) := by decide +kernel
theorem dX1_stateAt_18 : decode cX1_stateAt 18 = .ok (.aaload, 1) := by decide +kernel
theorem dX1_stateAt_19 : decode cX1_stateAt 19 = .ok (.goto 4, 3) := by decide +kernel
theorem dX1_stateAt_22 : decode cX1_stateAt 22 = .ok (.aconst_null, 1) := by decide +kernel
theorem dX1_stateAt_23 : decode cX1_stateAt 23 = .ok (.areturn, 1) := by decide +kernel
theorem dX2_init_0 : decode cX2_init 0 = .ok (.aload_n 0, 1) := by decide +kernel
theorem dX2_init_1 : decode cX2_init 1 = .ok (.invokespecial 3, 3) := by decide +kernel
theorem dX2_init_4 : decode cX2_init 4 = .ok (.aload_n 0, 1) := by decide +kernel
theorem dX2_init_5 : decode cX2_init 5 = .ok (.bipush 60, 2) := by decide +kernel
theorem dX2_init_7 : decode cX2_init 7 = .ok (.newarray .int, 2) := by decide +kernel
theorem dX2_init_9 : decode cX2_init 9 = .ok (.putfield 9, 3) := by decide +kernel
theorem dX2_init_12 : decode cX2_init 12 = .ok (.return_, 1) := by decide +kernel
theorem dX2_length_0 : decode cX2_length 0 = .ok (.aload_n 0, 1) := by decide +kernel
theorem dX2_length_1 : decode cX2_length 1 = .ok (.getfield 15, 3) := by decide +kernel
theorem dX2_length_4 : decode cX2_length 4 = .ok (.ireturn, 1) := by decide +kernel
set_option maxRecDepth 20000 in
theorem ggX2_codeAt_X3_at : GoodIn wsX2_codeAt wsX3_at := goodIn_r _ [5] (by decide +kernel) (by decide +kernel)
set_option maxRecDepth 20000 in
theorem gX2_codeAt_X3_at_n19 : GoodIn wsX2_codeAt (wsX3_at) := ggX2_codeAt_X3_at
theorem dX2_codeAt_0 : decode cX2_codeAt 0 = .ok (.iload_n 1, 1) := by decide +kernel
theorem dX2_codeAt_1 : decode cX2_codeAt 1 = .ok (.aload_n 0, 1) := by decide +kernel
theorem dX2_codeAt_2 : decode cX2_codeAt 2 = .ok (.getfield 15, 3) := by decide +kernel
theorem dX2_codeAt_5 : decode cX2_codeAt 5 = .ok (.if_icmp .ge 14, 3) := by decide +kernel
theorem dX2_codeAt_8 : decode cX2_codeAt 8 = .ok (.aload_n 0, 1) := by decide +kernel
theorem dX2_codeAt_9 : decode cX2_codeAt 9 = .ok (.getfield 9, 3) := by decide +kernel
theorem dX2_codeAt_12 : decode cX2_codeAt 12 = .ok (.iload_n 1, 1) := by decide +kernel
theorem dX2_codeAt_13 : decode cX2_codeAt 13 = .ok (.invokestatic 19, 3) := by decide +kernel
theorem dX2_codeAt_16 : decode cX2_codeAt 16 = .ok (.goto 4, 3) := by decide +kernel
theorem dX2_codeAt_19 : decode cX2_codeAt 19 = .ok (.iconst (-1), 1) := by decide +kernel
theorem dX2_codeAt_20 : decode cX2_codeAt 20 = .ok (.ireturn, 1) := by decide +kernel
set_option maxRecDepth 20000 in
theorem ggX2_add_X3_put : GoodIn wsX2_add wsX3_put := goodIn_r _ [5] (by decide +kernel) (by decide +kernel)
set_option maxRecDepth 20000 in
theorem gX2_add_X3_put_n23 : GoodIn wsX2_add (wsX3_put) := ggX2_add_X3_put
theorem dX2_add_0 : decode cX2_add 0 = .ok (.aload_n 0, 1) := by decide +kernel
theorem dX2_add_1 : decode cX2_add 1 = .ok (.getfield 9, 3) := by decide +kernel
theorem dX2_add_4 : decode cX2_add 4 = .ok (.aload_n 0, 1) := by decide +kernel
theorem dX2_add_5 : decode cX2_add 5 = .ok (.getfield 15, 3) := by decide +kernel
theorem dX2_add_8 : decode cX2_add 8 = .ok (.iload_n 1, 1) := by decide +kernel
theorem dX2_add_9 : decode cX2_add 9 = .ok (.invokestatic 23, 3) := by decide +kernel
theorem dX2_add_12 : decode cX2_add 12 = .ok (.aload_n 0, 1) := by decide +kernel
theorem dX2_add_13 : decode cX2_add 13 = .ok (.dup, 1) := by decide +kernel
theorem dX2_add_14 : decode cX2_add 14 = .ok (.getfield 15, 3) := by decide +kernel
theorem dX2_add_17 : decode cX2_add 17 = .ok (.iconst 1, 1) := by decide +kernel
theorem dX2_add_18 : decode cX2_add 18 = .ok (.iadd, 1) := by decide +kernel
theorem dX2_add_19 : decode cX2_add 19 = .ok (.putfield 15, 3) := by decide +kernel
theorem dX2_add_22 : decode cX2_add 22 = .ok (.return_, 1) := by decide +kernel
theorem dX2_empty_0 : decode cX2_empty 0 = .ok (.aload_n 0, 1) := by decide +kernel
theorem dX2_empty_1 : decode cX2_empty 1 = .ok (.iconst 0, 1) := by decide +kernel
theorem dX2_empty_2 : decode cX2_empty 2 = .ok (.putfield 15, 3) := by decide +kernel
theorem dX2_empty_5 : decode cX2_empty 5 = .ok (.return_, 1) := by decide +kernel
set_option maxRecDepth 20000 in
theorem ggX2_errorAt_X2_codeAt : GoodIn wsX2_errorAt wsX2_codeAt := goodIn_r _ [6, 1, 7, 8, 9, 10, 25, 26] (by decide +kernel) (by decide +kernel)
set_option maxRecDepth 20000 in
theorem gX2_errorAt_X2_codeAt : GoodIn wsX2_errorAt (wsV RX2 27 RX2 yX2_codeAt wsX2_codeAt) := goodIn_app (goodIn_of _ (by decide +kernel)) ggX2_errorAt_X2_codeAt
set_option maxRecDepth 20000 in
theorem ggX2_errorAt_X2_stateAfter : GoodIn wsX2_errorAt wsX2_stateAfter := goodIn_r _ [13, 14, 15, 5, 16, 17, 9, 18, 19, 20, 21, 22, 23, 24] (by decide +kernel) (by decide +kernel)
set_option maxRecDepth 20000 in
theorem gX2_errorAt_X2_stateAfter : GoodIn wsX2_errorAt (va_wsS RX2 31 yX2_stateAfter wsX2_stateAfter) := goodIn_app (goodIn_of _ (by decide +kernel)) ggX2_errorAt_X2_stateAfter
theorem dX2_errorAt_0 : decode cX2_errorAt 0 = .ok (.iconst 0, 1) := by decide +kernel
theorem dX2_errorAt_1 : decode cX2_errorAt 1 = .ok (.istore_n 1, 1) := by decide +kernel
theorem dX2_errorAt_2 : decode cX2_errorAt 2 = .ok (.iconst 0, 1) := by decide +kernel
theorem dX2_errorAt_3 : decode cX2_errorAt 3 = .ok (.istore_n 2, 1) := by decide +kernel
theorem dX2_errorAt_4 : decode cX2_errorAt 4 = .ok (.iload_n 2, 1) := by decide +kernel
theorem dX2_errorAt_5 : decode cX2_errorAt 5 = .ok (.aload_n 0, 1) := by decide +kernel
theorem dX2_errorAt_6 : decode cX2_errorAt 6 = .ok (.getfield 15, 3) := by decide +kernel
theorem dX2_errorAt_9 : decode cX2_errorAt 9 = .ok (.if_icmp .ge 26, 3) := by decide +kernel
theorem dX2_errorAt_12 : decode cX2_errorAt 12 = .ok (.iload_n 1, 1) := by decide +kernel
theorem dX2_errorAt_13 : decode cX2_errorAt 13 = .ok (.aload_n 0, 1) := by decide +kernel
theorem dX2_errorAt_14 : decode cX2_errorAt 14 = .ok (.iload_n 2, 1) := by decide +kernel
theorem dX2_errorAt_15 : decode cX2_errorAt 15 = .ok (.invokevirtual 27, 3) := by decide +kernel
theorem dX2_errorAt_18 : decode cX2_errorAt 18 = .ok (.invokestatic 31, 3) := by decide +kernel
theorem dX2_errorAt_21 : decode cX2_errorAt 21 = .ok (.istore_n 1, 1) := by decide +kernel
theorem dX2_errorAt_22 : decode cX2_errorAt 22 = .ok (.iload_n 1, 1) := by decide +kernel
theorem dX2_errorAt_23 : decode cX2_errorAt 23 = .ok (.iconst (-1), 1) := by decide +kernel
theorem dX2_errorAt_24 : decode cX2_errorAt 24 = .ok (.if_icmp .ne 5, 3) := by decide +kernel
theorem dX2_errorAt_27 : decode cX2_errorAt 27 = .ok (.iload_n 2, 1) := by decide +kernel
theorem dX2_errorAt_28 : decode cX2_errorAt 28 = .ok (.ireturn, 1) := by decide +kernel
theorem dX2_errorAt_29 : decode cX2_errorAt 29 = .ok (.iinc 2 1, 3) := by decide +kernel
theorem dX2_errorAt_32 : decode cX2_errorAt 32 = .ok (.goto (-28), 3) := by decide +kernel
theorem dX2_errorAt_35 : decode cX2_errorAt 35 = .ok (.aload_n 0, 1) := by decide +kernel
theorem dX2_errorAt_36 : decode cX2_errorAt 36 = .ok (.getfield 15, 3) := by decide +kernel
theorem dX2_errorAt_39 : decode cX2_errorAt 39 = .ok (.ireturn, 1) := by decide +kernel
set_option maxRecDepth 20000 in
theorem ggX2_isComplete_X2_codeAt : GoodIn wsX2_isComplete wsX2_codeAt := goodIn_r _ [6, 1, 7, 8, 9, 10, 25, 26] (by decide +kernel) (by decide +kernel)
set_option maxRecDepth 20000 in
theorem gX2_isComplete_X2_codeAt : GoodIn wsX2_isComplete (wsV RX2 27 RX2 yX2_codeAt wsX2_codeAt) := goodIn_app (goodIn_of _ (by decide +kernel)) ggX2_isComplete_X2_codeAt
set_option maxRecDepth 20000 in
theorem ggX2_isComplete_X2_stateAfter : GoodIn wsX2_isComplete wsX2_stateAfter := goodIn_r _ [13, 14, 15, 5, 16, 17, 9, 18, 19, 20, 21, 22, 23, 24] (by decide +kernel) (by decide +kernel)
set_option maxRecDepth 20000 in
theorem gX2_isComplete_X2_stateAfter : GoodIn wsX2_isComplete (va_wsS RX2 31 yX2_stateAfter wsX2_stateAfter) := goodIn_app (goodIn_of _ (by decide +kernel)) ggX2_isComplete_X2_stateAfter
theorem dX2_isComplete_0 : decode cX2_isComplete 0 = .ok (.iconst 0, 1) := by decide +kernel
theorem dX2_isComplete_1 : decode cX2_isComplete 1 = .ok (.istore_n 1, 1) := by decide +kernel
theorem dX2_isComplete_2 : decode cX2_isComplete 2 = .ok (.iconst 0, 1) := by decide +kernel
theorem dX2_isComplete_3 : decode cX2_isComplete 3 = .ok (.istore_n 2, 1) := by decide +kernel
theorem dX2_isComplete_4 : decode cX2_isComplete 4 = .ok (.iload_n 2, 1) := by decide +kernel
theorem dX2_isComplete_5 : decode cX2_isComplete 5 = .ok (.aload_n 0, 1) := by decide +kernel
theorem dX2_isComplete_6 : decode cX2_isComplete 6 = .ok (.getfield 15, 3) := by decide +kernel
theorem dX2_isComplete_9 : decode cX2_isComplete 9 = .ok (.if_icmp .ge 24, 3) := by decide +kernel
theorem dX2_isComplete_12 : decode cX2_isComplete 12 = .ok (.iload_n 1, 1) := by decide +kernel
theorem dX2_isComplete_13 : decode cX2_isComplete 13 = .ok (.iconst (-1), 1) := by decide +kernel
theorem dX2_isComplete_14 : decode cX2_isComplete 14 = .ok (.if_icmp .eq 19, 3) := by decide +kernel
theorem dX2_isComplete_17 : decode cX2_isComplete 17 = .ok (.iload_n 1, 1) := by decide +kernel
theorem dX2_isComplete_18 : decode cX2_isComplete 18 = .ok (.aload_n 0, 1) := by decide +kernel
theorem dX2_isComplete_19 : decode cX2_isComplete 19 = .ok (.iload_n 2, 1) := by decide +kernel
theorem dX2_isComplete_20 : decode cX2_isComplete 20 = .ok (.invokevirtual 27, 3) := by decide +kernel
theorem dX2_isComplete_23 : decode cX2_isComplete 23 = .ok (.invokestatic 31, 3) := by decide +kernel
theorem dX2_isComplete_26 : decode cX2_isComplete 26 = .ok (.istore_n 1, 1) := by decide +kernel
theorem dX2_isComplete_27 : decode cX2_isComplete 27 = .ok (.iinc 2 1, 3) := by decide +kernel
theorem dX2_isComplete_30 : decode cX2_isComplete 30 = .ok (.goto (-26), 3) := by decide +kernel
theorem dX2_isComplete_33 : decode cX2_isComplete 33 = .ok (.iload_n 1, 1) := by decide +kernel
theorem dX2_isComplete_34 : decode cX2_isComplete 34 = .ok (.iconst 4, 1) := by decide +kernel
theorem dX2_isComplete_35 : decode cX2_isComplete 35 = .ok (.if_icmp .lt 7, 3) := by decide +kernel
theorem dX2_isComplete_38 : decode cX2_isComplete 38 = .ok (.iconst 1, 1) := by decide +kernel
theorem dX2_isComplete_39 : decode cX2_isComplete 39 = .ok (.goto 4, 3) := by decide +kernel
theorem dX2_isComplete_42 : decode cX2_isComplete 42 = .ok (.iconst 0, 1) := by decide +kernel
theorem dX2_isComplete_43 : decode cX2_isComplete 43 = .ok (.ireturn, 1) := by decide +kernel
set_option maxRecDepth 20000 in
theorem ggX2_stateAfter_X2_isDigit : GoodIn wsX2_stateAfter wsX2_isDigit := goodIn_r _ [4, 5, 6, 7] (by decide +kernel) (by decide +kernel)
set_option maxRecDepth 20000 in
theorem gX2_stateAfter_X2_isDigit : GoodIn wsX2_stateAfter (va_wsS RX2 35 yX2_isDigit wsX2_isDigit) := goodIn_app (goodIn_of _ (by decide +kernel)) ggX2_stateAfter_X2_isDigit
set_option maxRecDepth 20000 in
theorem ggX2_stateAfter_X3_isWithin : GoodIn wsX2_stateAfter wsX3_isWithin := goodIn_r _ [7] (by decide +kernel) (by decide +kernel)
set_option maxRecDepth 20000 in
theorem gX2_stateAfter_X3_isWithin_n39 : GoodIn wsX2_stateAfter (wsX3_isWithin) := ggX2_stateAfter_X3_isWithin
set_option maxRecDepth 20000 in
theorem ggX2_stateAfter_X2_afterBox : GoodIn wsX2_stateAfter wsX2_afterBox := goodIn_r _ [10] (by decide +kernel) (by decide +kernel)
set_option maxRecDepth 20000 in
theorem gX2_stateAfter_X2_afterBox : GoodIn wsX2_stateAfter (va_wsS RX2 43 yX2_afterBox wsX2_afterBox) := goodIn_app (goodIn_of _ (by decide +kernel)) ggX2_stateAfter_X2_afterBox
set_option maxRecDepth 20000 in
theorem ggX2_stateAfter_X2_afterAnswer : GoodIn wsX2_stateAfter wsX2_afterAnswer := goodIn_r _ [13] (by decide +kernel) (by decide +kernel)
set_option maxRecDepth 20000 in
theorem gX2_stateAfter_X2_afterAnswer : GoodIn wsX2_stateAfter (va_wsS RX2 46 yX2_afterAnswer wsX2_afterAnswer) := goodIn_app (goodIn_of _ (by decide +kernel)) ggX2_stateAfter_X2_afterAnswer
theorem dX2_stateAfter_0 : decode cX2_stateAfter 0 = .ok (.iload_n 0, 1) := by decide +kernel
theorem dX2_stateAfter_1 : decode cX2_stateAfter 1 = .ok (.tableswitch 132 0 8 #[51, 74, 94, 99, 132, 132, 132, 132, 127], 51) := by decide +kernel
theorem dX2_stateAfter_52 : decode cX2_stateAfter 52 = .ok (.iload_n 1, 1) := by decide +kernel
theorem dX2_stateAfter_53 : decode cX2_stateAfter 53 = .ok (.bipush 49, 2) := by decide +kernel
theorem dX2_stateAfter_55 : decode cX2_stateAfter 55 = .ok (.if_icmp .ne 7, 3) := by decide +kernel
theorem dX2_stateAfter_58 : decode cX2_stateAfter 58 = .ok (.iconst 1, 1) := by decide +kernel
theorem dX2_stateAfter_59 : decode cX2_stateAfter 59 = .ok (.goto 15, 3) := by decide +kernel
theorem dX2_stateAfter_62 : decode cX2_stateAfter 62 = .ok (.iload_n 1, 1) := by decide +kernel
theorem dX2_stateAfter_63 : decode cX2_stateAfter 63 = .ok (.invokestatic 35, 3) := by decide +kernel
theorem dX2_stateAfter_66 : decode cX2_stateAfter 66 = .ok (.ifCond .eq 7, 3) := by decide +kernel
theorem dX2_stateAfter_69 : decode cX2_stateAfter 69 = .ok (.iconst 2, 1) := by decide +kernel
theorem dX2_stateAfter_70 : decode cX2_stateAfter 70 = .ok (.goto 4, 3) := by decide +kernel
theorem dX2_stateAfter_73 : decode cX2_stateAfter 73 = .ok (.iconst (-1), 1) := by decide +kernel
theorem dX2_stateAfter_74 : decode cX2_stateAfter 74 = .ok (.ireturn, 1) := by decide +kernel
theorem dX2_stateAfter_75 : decode cX2_stateAfter 75 = .ok (.iload_n 1, 1) := by decide +kernel
theorem dX2_stateAfter_76 : decode cX2_stateAfter 76 = .ok (.bipush 48, 2) := by decide +kernel
theorem dX2_stateAfter_78 : decode cX2_stateAfter 78 = .ok (.bipush 53, 2) := by decide +kernel
theorem dX2_stateAfter_80 : decode cX2_stateAfter 80 = .ok (.invokestatic 39, 3) := by decide +kernel
theorem dX2_stateAfter_83 : decode cX2_stateAfter 83 = .ok (.ifCond .eq 7, 3) := by decide +kernel
theorem dX2_stateAfter_86 : decode cX2_stateAfter 86 = .ok (.iconst 2, 1) := by decide +kernel
theorem dX2_stateAfter_87 : decode cX2_stateAfter 87 = .ok (.goto 7, 3) := by decide +kernel
theorem dX2_stateAfter_90 : decode cX2_stateAfter 90 = .ok (.iload_n 1, 1) := by decide +kernel
theorem dX2_stateAfter_91 : decode cX2_stateAfter 91 = .ok (.invokestatic 43, 3) := by decide +kernel
theorem dX2_stateAfter_94 : decode cX2_stateAfter 94 = .ok (.ireturn, 1) := by decide +kernel
theorem dX2_stateAfter_95 : decode cX2_stateAfter 95 = .ok (.iload_n 1, 1) := by decide +kernel
theorem dX2_stateAfter_96 : decode cX2_stateAfter 96 = .ok (.invokestatic 43, 3) := by decide +kernel
theorem dX2_stateAfter_99 : decode cX2_stateAfter 99 = .ok (.ireturn, 1) := by decide +kernel
theorem dX2_stateAfter_100 : decode cX2_stateAfter 100 = .ok (.iload_n 1, 1) := by decide +kernel
theorem dX2_stateAfter_101 : decode cX2_stateAfter 101 = .ok (.bipush 48, 2) := by decide +kernel
theorem dX2_stateAfter_103 : decode cX2_stateAfter 103 = .ok (.if_icmp .eq 9, 3) := by decide +kernel
theorem dX2_stateAfter_106 : decode cX2_stateAfter 106 = .ok (.iload_n 1, 1) := by decide +kernel
theorem dX2_stateAfter_107 : decode cX2_stateAfter 107 = .ok (.bipush 45, 2) := by decide +kernel
theorem dX2_stateAfter_109 : decode cX2_stateAfter 109 = .ok (.if_icmp .ne 6, 3) := by decide +kernel
theorem dX2_stateAfter_112 : decode cX2_stateAfter 112 = .ok (.bipush 8, 2) := by decide +kernel
theorem dX2_stateAfter_114 : decode cX2_stateAfter 114 = .ok (.ireturn, 1) := by decide +kernel
theorem dX2_stateAfter_115 : decode cX2_stateAfter 115 = .ok (.iload_n 1, 1) := by decide +kernel
theorem dX2_stateAfter_116 : decode cX2_stateAfter 116 = .ok (.invokestatic 35, 3) := by decide +kernel
theorem dX2_stateAfter_119 : decode cX2_stateAfter 119 = .ok (.ifCond .eq 7, 3) := by decide +kernel
theorem dX2_stateAfter_122 : decode cX2_stateAfter 122 = .ok (.iconst 4, 1) := by decide +kernel
theorem dX2_stateAfter_123 : decode cX2_stateAfter 123 = .ok (.goto 4, 3) := by decide +kernel
theorem dX2_stateAfter_126 : decode cX2_stateAfter 126 = .ok (.iconst (-1), 1) := by decide +kernel
theorem dX2_stateAfter_127 : decode cX2_stateAfter 127 = .ok (.ireturn, 1) := by decide +kernel
theorem dX2_stateAfter_128 : decode cX2_stateAfter 128 = .ok (.iload_n 1, 1) := by decide +kernel
theorem dX2_stateAfter_129 : decode cX2_stateAfter 129 = .ok (.invokestatic 46, 3) := by decide +kernel
theorem dX2_stateAfter_132 : decode cX2_stateAfter 132 = .ok (.ireturn, 1) := by decide +kernel
theorem dX2_stateAfter_133 : decode cX2_stateAfter 133 = .ok (.iload_n 1, 1) := by decide +kernel
theorem dX2_stateAfter_134 : decode cX2_stateAfter 134 = .ok (.invokestatic 35, 3) := by decide +kernel
theorem dX2_stateAfter_137 : decode cX2_stateAfter 137 = .ok (.ifCond .eq 9, 3) := by decide +kernel
theorem dX2_stateAfter_140 : decode cX2_stateAfter 140 = .ok (.iload_n 0, 1) := by decide +kernel
theorem dX2_stateAfter_141 : decode cX2_stateAfter 141 = .ok (.iconst 1, 1) := by decide +kernel
theorem dX2_stateAfter_142 : decode cX2_stateAfter 142 = .ok (.iadd, 1) := by decide +kernel
theorem dX2_stateAfter_143 : decode cX2_stateAfter 143 = .ok (.goto 7, 3) := by decide +kernel
theorem dX2_stateAfter_146 : decode cX2_stateAfter 146 = .ok (.iload_n 1, 1) := by decide +kernel
theorem dX2_stateAfter_147 : decode cX2_stateAfter 147 = .ok (.invokestatic 46, 3) := by decide +kernel
theorem dX2_stateAfter_150 : decode cX2_stateAfter 150 = .ok (.ireturn, 1) := by decide +kernel
set_option maxRecDepth 20000 in
theorem ggX2_isDigit_X3_isWithin : GoodIn wsX2_isDigit wsX3_isWithin := goodIn_r _ [3] (by decide +kernel) (by decide +kernel)
set_option maxRecDepth 20000 in
theorem gX2_isDigit_X3_isWithin_n39 : GoodIn wsX2_isDigit (wsX3_isWithin) := ggX2_isDigit_X3_isWithin
theorem dX2_isDigit_0 : decode cX2_isDigit 0 = .ok (.iload_n 0, 1) := by decide +kernel
theorem dX2_isDigit_1 : decode cX2_isDigit 1 = .ok (.bipush 48, 2) := by decide +kernel
theorem dX2_isDigit_3 : decode cX2_isDigit 3 = .ok (.bipush 57, 2) := by decide +kernel
theorem dX2_isDigit_5 : decode cX2_isDigit 5 = .ok (.invokestatic 39, 3) := by decide +kernel
theorem dX2_isDigit_8 : decode cX2_isDigit 8 = .ok (.ireturn, 1) := by decide +kernel
theorem dX2_afterBox_0 : decode cX2_afterBox 0 = .ok (.iload_n 0, 1) := by decide +kernel
theorem dX2_afterBox_1 : decode cX2_afterBox 1 = .ok (.bipush 61, 2) := by decide +kernel
theorem dX2_afterBox_3 : decode cX2_afterBox 3 = .ok (.if_icmp .ne 7, 3) := by decide +kernel
theorem dX2_afterBox_6 : decode cX2_afterBox 6 = .ok (.iconst 3, 1) := by decide +kernel
theorem dX2_afterBox_7 : decode cX2_afterBox 7 = .ok (.goto 4, 3) := by decide +kernel
theorem dX2_afterBox_10 : decode cX2_afterBox 10 = .ok (.iconst (-1), 1) := by decide +kernel
theorem dX2_afterBox_11 : decode cX2_afterBox 11 = .ok (.ireturn, 1) := by decide +kernel
theorem dX2_afterAnswer_0 : decode cX2_afterAnswer 0 = .ok (.iload_n 0, 1) := by decide +kernel
theorem dX2_afterAnswer_1 : decode cX2_afterAnswer 1 = .ok (.bipush 44, 2) := by decide +kernel
theorem dX2_afterAnswer_3 : decode cX2_afterAnswer 3 = .ok (.if_icmp .ne 7, 3) := by decide +kernel
theorem dX2_afterAnswer_6 : decode cX2_afterAnswer 6 = .ok (.iconst 0, 1) := by decide +kernel
theorem dX2_afterAnswer_7 : decode cX2_afterAnswer 7 = .ok (.goto 4, 3) := by decide +kernel
theorem dX2_afterAnswer_10 : decode cX2_afterAnswer 10 = .ok (.iconst (-1), 1) := by decide +kernel
theorem dX2_afterAnswer_11 : decode cX2_afterAnswer 11 = .ok (.ireturn, 1) := by decide +kernel
set_option maxRecDepth 20000 in
theorem ggX3_init_X0_init : GoodIn wsX3_init wsX0_init := goodIn_r _ [18, 19, 2, 3, 20, 21, 22, 23, 24, 25, 26, 36, 37, 38, 39, 40, 41, 42] (by decide +kernel) (by decide +kernel)
set_option maxRecDepth 20000 in
theorem gX3_init_X0_init_n9 : GoodIn wsX3_init (wsX0_init) := ggX3_init_X0_init
set_option maxRecDepth 20000 in
theorem ggX3_init_X1_init : GoodIn wsX3_init wsX1_init := goodIn_r _ [28, 29, 2, 3, 30, 31, 5, 6, 17, 18, 19, 20, 21, 22, 23, 24, 25, 26, 47, 48, 49, 36, 37, 38, 39, 40, 41, 42] (by decide +kernel) (by decide +kernel)
set_option maxRecDepth 20000 in
theorem gX3_init_X1_init_n21 : GoodIn wsX3_init (wsX1_init) := ggX3_init_X1_init
set_option maxRecDepth 20000 in
theorem ggX3_init_X2_init : GoodIn wsX3_init wsX2_init := goodIn_r _ [33, 34, 2, 3, 20, 35, 50, 51] (by decide +kernel) (by decide +kernel)
set_option maxRecDepth 20000 in
theorem gX3_init_X2_init_n28 : GoodIn wsX3_init (wsX2_init) := ggX3_init_X2_init
theorem dX3_init_0 : decode cX3_init 0 = .ok (.aload_n 0, 1) := by decide +kernel
theorem dX3_init_1 : decode cX3_init 1 = .ok (.invokespecial 1, 3) := by decide +kernel
theorem dX3_init_4 : decode cX3_init 4 = .ok (.aload_n 0, 1) := by decide +kernel
theorem dX3_init_5 : decode cX3_init 5 = .ok (.new 7, 3) := by decide +kernel
theorem dX3_init_8 : decode cX3_init 8 = .ok (.dup, 1) := by decide +kernel
theorem dX3_init_9 : decode cX3_init 9 = .ok (.invokespecial 9, 3) := by decide +kernel
theorem dX3_init_12 : decode cX3_init 12 = .ok (.putfield 10, 3) := by decide +kernel
theorem dX3_init_15 : decode cX3_init 15 = .ok (.aload_n 0, 1) := by decide +kernel
theorem dX3_init_16 : decode cX3_init 16 = .ok (.new 7, 3) := by decide +kernel
theorem dX3_init_19 : decode cX3_init 19 = .ok (.dup, 1) := by decide +kernel
theorem dX3_init_20 : decode cX3_init 20 = .ok (.invokespecial 9, 3) := by decide +kernel
theorem dX3_init_23 : decode cX3_init 23 = .ok (.putfield 16, 3) := by decide +kernel
theorem dX3_init_26 : decode cX3_init 26 = .ok (.aload_n 0, 1) := by decide +kernel
theorem dX3_init_27 : decode cX3_init 27 = .ok (.new 19, 3) := by decide +kernel
theorem dX3_init_30 : decode cX3_init 30 = .ok (.dup, 1) := by decide +kernel
theorem dX3_init_31 : decode cX3_init 31 = .ok (.invokespecial 21, 3) := by decide +kernel
theorem dX3_init_34 : decode cX3_init 34 = .ok (.putfield 22, 3) := by decide +kernel
theorem dX3_init_37 : decode cX3_init 37 = .ok (.aload_n 0, 1) := by decide +kernel
theorem dX3_init_38 : decode cX3_init 38 = .ok (.new 26, 3) := by decide +kernel
theorem dX3_init_41 : decode cX3_init 41 = .ok (.dup, 1) := by decide +kernel
theorem dX3_init_42 : decode cX3_init 42 = .ok (.invokespecial 28, 3) := by decide +kernel
theorem dX3_init_45 : decode cX3_init 45 = .ok (.putfield 29, 3) := by decide +kernel
theorem dX3_init_48 : decode cX3_init 48 = .ok (.return_, 1) := by decide +kernel
set_option maxRecDepth 20000 in
theorem ggX3_comb_X3_needPart : GoodIn wsX3_comb wsX3_needPart := goodIn_ca (goodIn_r _ [4, 5, 6, 7, 8, 3, 9] (by decide +kernel) (by decide +kernel)) (goodIn_sub (fun _ h => List.mem_cons_of_mem _ (List.mem_append_left _ (List.mem_append_left _ (List.mem_append_right _ h)))) (by decide +kernel))
set_option maxRecDepth 20000 in
theorem gX3_comb_X3_needPart : GoodIn wsX3_comb (va_wsS RX3 33 yX3_needPart wsX3_needPart) := goodIn_app (goodIn_of _ (by decide +kernel)) ggX3_comb_X3_needPart
set_option maxRecDepth 20000 in
theorem ggX3_comb_X3_isWithin : GoodIn wsX3_comb wsX3_isWithin := goodIn_r _ [9] (by decide +kernel) (by decide +kernel)
set_option maxRecDepth 20000 in
theorem gX3_comb_X3_isWithin : GoodIn wsX3_comb (va_wsS RX3 37 yX3_isWithin wsX3_isWithin) := goodIn_app (goodIn_of _ (by decide +kernel)) ggX3_comb_X3_isWithin
set_option maxRecDepth 20000 in
theorem ggX3_comb_X3_needArgument : GoodIn wsX3_comb wsX3_needArgument := goodIn_ca (goodIn_r _ [12, 13, 14] (by decide +kernel) (by decide +kernel)) (goodIn_sub (fun _ h => List.mem_cons_of_mem _ (List.mem_append_left _ (List.mem_append_right _ h))) (by decide +kernel))
set_option maxRecDepth 20000 in
theorem gX3_comb_X3_needArgument : GoodIn wsX3_comb (va_wsS RX3 41 yX3_needArgument wsX3_needArgument) := goodIn_app (goodIn_of _ (by decide +kernel)) ggX3_comb_X3_needArgument
set_option maxRecDepth 20000 in
theorem ggX3_comb_X3_addNew : GoodIn wsX3_comb wsX3_addNew := goodIn_ca (goodIn_r _ [18, 19, 20, 21, 22, 23, 24, 25, 26, 27, 3, 28, 29, 30, 31, 32, 33, 34, 35, 36, 37, 38, 39, 40, 41, 42, 43, 44, 45, 46, 47, 48, 49, 50, 51, 52, 53, 54, 55, 56, 57, 58, 59, 60, 61, 62, 63, 64, 65, 66, 67, 68, 69, 70, 71, 72, 73, 74] (by decide +kernel) (by decide +kernel)) (goodIn_sub (fun _ h => List.mem_cons_of_mem _ (List.mem_append_right _ h)) (by decide +kernel))
set_option maxRecDepth 20000 in
theorem gX3_comb_X3_addNew : GoodIn wsX3_comb (wsV RX3 45 RX3 yX3_addNew wsX3_addNew) := goodIn_app (goodIn_of _ (by decide +kernel)) ggX3_comb_X3_addNew
theorem dX3_comb_0 : decode cX3_comb 0 = .ok (.iload_n 1, 1) := by decide +kernel
theorem dX3_comb_1 : decode cX3_comb 1 = .ok (.iconst 4, 1) := by decide +kernel
theorem dX3_comb_2 : decode cX3_comb 2 = .ok (.invokestatic 33, 3) := by decide +kernel
theorem dX3_comb_5 : decode cX3_comb 5 = .ok (.iload_n 2, 1) := by decide +kernel
theorem dX3_comb_6 : decode cX3_comb 6 = .ok (.iconst 1, 1) := by decide +kernel
theorem dX3_comb_7 : decode cX3_comb 7 = .ok (.iconst 5, 1) := by decide +kernel
theorem dX3_comb_8 : decode cX3_comb 8 = .ok (.invokestatic 37, 3) := by decide +kernel
theorem dX3_comb_11 : decode cX3_comb 11 = .ok (.invokestatic 41, 3) := by decide +kernel
theorem dX3_comb_14 : decode cX3_comb 14 = .ok (.aload_n 0, 1) := by decide +kernel
theorem dX3_comb_15 : decode cX3_comb 15 = .ok (.iconst 0, 1) := by decide +kernel
theorem dX3_comb_16 : decode cX3_comb 16 = .ok (.iload_n 1, 1) := by decide +kernel
theorem dX3_comb_17 : decode cX3_comb 17 = .ok (.iload_n 2, 1) := by decide +kernel
theorem dX3_comb_18 : decode cX3_comb 18 = .ok (.iconst (-1), 1) := by decide +kernel
theorem dX3_comb_19 : decode cX3_comb 19 = .ok (.invokevirtual 45, 3) := by decide +kernel
theorem dX3_comb_22 : decode cX3_comb 22 = .ok (.ireturn, 1) := by decide +kernel
set_option maxRecDepth 20000 in
theorem ggX3_tick_X3_needPart : GoodIn wsX3_tick wsX3_needPart := goodIn_ca (goodIn_r _ [4, 5, 6, 7, 8, 3, 9] (by decide +kernel) (by decide +kernel)) (goodIn_sub (fun _ h => List.mem_cons_of_mem _ (List.mem_append_left _ (List.mem_append_left _ (List.mem_append_right _ h)))) (by decide +kernel))
set_option maxRecDepth 20000 in
theorem gX3_tick_X3_needPart : GoodIn wsX3_tick (va_wsS RX3 33 yX3_needPart wsX3_needPart) := goodIn_app (goodIn_of _ (by decide +kernel)) ggX3_tick_X3_needPart
set_option maxRecDepth 20000 in
theorem ggX3_tick_X3_isWithin : GoodIn wsX3_tick wsX3_isWithin := goodIn_r _ [9] (by decide +kernel) (by decide +kernel)
set_option maxRecDepth 20000 in
theorem gX3_tick_X3_isWithin : GoodIn wsX3_tick (va_wsS RX3 37 yX3_isWithin wsX3_isWithin) := goodIn_app (goodIn_of _ (by decide +kernel)) ggX3_tick_X3_isWithin
set_option maxRecDepth 20000 in
theorem ggX3_tick_X3_needArgument : GoodIn wsX3_tick wsX3_needArgument := goodIn_ca (goodIn_r _ [12, 13, 14] (by decide +kernel) (by decide +kernel)) (goodIn_sub (fun _ h => List.mem_cons_of_mem _ (List.mem_append_left _ (List.mem_append_right _ h))) (by decide +kernel))
set_option maxRecDepth 20000 in
theorem gX3_tick_X3_needArgument : GoodIn wsX3_tick (va_wsS RX3 41 yX3_needArgument wsX3_needArgument) := goodIn_app (goodIn_of _ (by decide +kernel)) ggX3_tick_X3_needArgument
set_option maxRecDepth 20000 in
theorem ggX3_tick_X3_addNew : GoodIn wsX3_tick wsX3_addNew := goodIn_ca (goodIn_r _ [18, 19, 20, 21, 22, 23, 24, 25, 26, 27, 3, 28, 29, 30, 31, 32, 33, 34, 35, 36, 37, 38, 39, 40, 41, 42, 43, 44, 45, 46, 47, 48, 49, 50, 51, 52, 53, 54, 55, 56, 57, 58, 59, 60, 61, 62, 63, 64, 65, 66, 67, 68, 69, 70, 71, 72, 73, 74] (by decide +kernel) (by decide +kernel)) (goodIn_sub (fun _ h => List.mem_cons_of_mem _ (List.mem_append_right _ h)) (by decide +kernel))
set_option maxRecDepth 20000 in
theorem gX3_tick_X3_addNew : GoodIn wsX3_tick (wsV RX3 45 RX3 yX3_addNew wsX3_addNew) := goodIn_app (goodIn_of _ (by decide +kernel)) ggX3_tick_X3_addNew
theorem dX3_tick_0 : decode cX3_tick 0 = .ok (.iload_n 1, 1) := by decide +kernel
theorem dX3_tick_1 : decode cX3_tick 1 = .ok (.iconst 4, 1) := by decide +kernel
theorem dX3_tick_2 : decode cX3_tick 2 = .ok (.invokestatic 33, 3) := by decide +kernel
theorem dX3_tick_5 : decode cX3_tick 5 = .ok (.iload_n 2, 1) := by decide +kernel
theorem dX3_tick_6 : decode cX3_tick 6 = .ok (.iconst (-1), 1) := by decide +kernel
theorem dX3_tick_7 : decode cX3_tick 7 = .ok (.if_icmp .eq 14, 3) := by decide +kernel
theorem dX3_tick_10 : decode cX3_tick 10 = .ok (.iload_n 2, 1) := by decide +kernel
theorem dX3_tick_11 : decode cX3_tick 11 = .ok (.iload_n 1, 1) := by decide +kernel
theorem dX3_tick_12 : decode cX3_tick 12 = .ok (.iconst 1, 1) := by decide +kernel
theorem dX3_tick_13 : decode cX3_tick 13 = .ok (.iadd, 1) := by decide +kernel
theorem dX3_tick_14 : decode cX3_tick 14 = .ok (.iconst 4, 1) := by decide +kernel
theorem dX3_tick_15 : decode cX3_tick 15 = .ok (.invokestatic 37, 3) := by decide +kernel
theorem dX3_tick_18 : decode cX3_tick 18 = .ok (.ifCond .eq 7, 3) := by decide +kernel
theorem dX3_tick_21 : decode cX3_tick 21 = .ok (.iconst 1, 1) := by decide +kernel
theorem dX3_tick_22 : decode cX3_tick 22 = .ok (.goto 4, 3) := by decide +kernel
theorem dX3_tick_25 : decode cX3_tick 25 = .ok (.iconst 0, 1) := by decide +kernel
theorem dX3_tick_26 : decode cX3_tick 26 = .ok (.invokestatic 41, 3) := by decide +kernel
theorem dX3_tick_29 : decode cX3_tick 29 = .ok (.aload_n 0, 1) := by decide +kernel
theorem dX3_tick_30 : decode cX3_tick 30 = .ok (.iconst 1, 1) := by decide +kernel
theorem dX3_tick_31 : decode cX3_tick 31 = .ok (.iload_n 1, 1) := by decide +kernel
theorem dX3_tick_32 : decode cX3_tick 32 = .ok (.iload_n 2, 1) := by decide +kernel
theorem dX3_tick_33 : decode cX3_tick 33 = .ok (.iconst (-1), 1) := by decide +kernel
theorem dX3_tick_34 : decode cX3_tick 34 = .ok (.invokevirtual 45, 3) := by decide +kernel
theorem dX3_tick_37 : decode cX3_tick 37 = .ok (.ireturn, 1) := by decide +kernel
set_option maxRecDepth 20000 in
theorem ggX3_skip_X3_needPart : GoodIn wsX3_skip wsX3_needPart := goodIn_ca (goodIn_r _ [4, 5, 6, 7, 8, 3, 9] (by decide +kernel) (by decide +kernel)) (goodIn_sub (fun _ h => List.mem_cons_of_mem _ (List.mem_append_left _ (List.mem_append_left _ (List.mem_append_right _ h)))) (by decide +kernel))
set_option maxRecDepth 20000 in
theorem gX3_skip_X3_needPart : GoodIn wsX3_skip (va_wsS RX3 33 yX3_needPart wsX3_needPart) := goodIn_app (goodIn_of _ (by decide +kernel)) ggX3_skip_X3_needPart
set_option maxRecDepth 20000 in
theorem ggX3_skip_X3_isWithin : GoodIn wsX3_skip wsX3_isWithin := goodIn_r _ [9] (by decide +kernel) (by decide +kernel)
set_option maxRecDepth 20000 in
theorem gX3_skip_X3_isWithin : GoodIn wsX3_skip (va_wsS RX3 37 yX3_isWithin wsX3_isWithin) := goodIn_app (goodIn_of _ (by decide +kernel)) ggX3_skip_X3_isWithin
set_option maxRecDepth 20000 in
theorem ggX3_skip_X3_needArgument : GoodIn wsX3_skip wsX3_needArgument := goodIn_ca (goodIn_r _ [12, 13, 14] (by decide +kernel) (by decide +kernel)) (goodIn_sub (fun _ h => List.mem_cons_of_mem _ (List.mem_append_left _ (List.mem_append_right _ h))) (by decide +kernel))
set_option maxRecDepth 20000 in
theorem gX3_skip_X3_needArgument : GoodIn wsX3_skip (va_wsS RX3 41 yX3_needArgument wsX3_needArgument) := goodIn_app (goodIn_of _ (by decide +kernel)) ggX3_skip_X3_needArgument
set_option maxRecDepth 20000 in
theorem ggX3_skip_X3_addNew : GoodIn wsX3_skip wsX3_addNew := goodIn_ca (goodIn_r _ [18, 19, 20, 21, 22, 23, 24, 25, 26, 27, 3, 28, 29, 30, 31, 32, 33, 34, 35, 36, 37, 38, 39, 40, 41, 42, 43, 44, 45, 46, 47, 48, 49, 50, 51, 52, 53, 54, 55, 56, 57, 58, 59, 60, 61, 62, 63, 64, 65, 66, 67, 68, 69, 70, 71, 72, 73, 74] (by decide +kernel) (by decide +kernel)) (goodIn_sub (fun _ h => List.mem_cons_of_mem _ (List.mem_append_right _ h)) (by decide +kernel))
set_option maxRecDepth 20000 in
theorem gX3_skip_X3_addNew : GoodIn wsX3_skip (wsV RX3 45 RX3 yX3_addNew wsX3_addNew) := goodIn_app (goodIn_of _ (by decide +kernel)) ggX3_skip_X3_addNew
theorem dX3_skip_0 : decode cX3_skip 0 = .ok (.iload_n 1, 1) := by decide +kernel
theorem dX3_skip_1 : decode cX3_skip 1 = .ok (.iconst 3, 1) := by decide +kernel
theorem dX3_skip_2 : decode cX3_skip 2 = .ok (.invokestatic 33, 3) := by decide +kernel
theorem dX3_skip_5 : decode cX3_skip 5 = .ok (.iload_n 2, 1) := by decide +kernel
theorem dX3_skip_6 : decode cX3_skip 6 = .ok (.iload_n 1, 1) := by decide +kernel
theorem dX3_skip_7 : decode cX3_skip 7 = .ok (.iconst 1, 1) := by decide +kernel
theorem dX3_skip_8 : decode cX3_skip 8 = .ok (.iadd, 1) := by decide +kernel
theorem dX3_skip_9 : decode cX3_skip 9 = .ok (.iconst 4, 1) := by decide +kernel
theorem dX3_skip_10 : decode cX3_skip 10 = .ok (.invokestatic 37, 3) := by decide +kernel
theorem dX3_skip_13 : decode cX3_skip 13 = .ok (.ifCond .eq 17, 3) := by decide +kernel
theorem dX3_skip_16 : decode cX3_skip 16 = .ok (.iload_n 3, 1) := by decide +kernel
theorem dX3_skip_17 : decode cX3_skip 17 = .ok (.iconst 0, 1) := by decide +kernel
theorem dX3_skip_18 : decode cX3_skip 18 = .ok (.bipush 99, 2) := by decide +kernel
theorem dX3_skip_20 : decode cX3_skip 20 = .ok (.invokestatic 37, 3) := by decide +kernel
theorem dX3_skip_23 : decode cX3_skip 23 = .ok (.ifCond .eq 7, 3) := by decide +kernel
theorem dX3_skip_26 : decode cX3_skip 26 = .ok (.iconst 1, 1) := by decide +kernel
theorem dX3_skip_27 : decode cX3_skip 27 = .ok (.goto 4, 3) := by decide +kernel
theorem dX3_skip_30 : decode cX3_skip 30 = .ok (.iconst 0, 1) := by decide +kernel
theorem dX3_skip_31 : decode cX3_skip 31 = .ok (.invokestatic 41, 3) := by decide +kernel
theorem dX3_skip_34 : decode cX3_skip 34 = .ok (.aload_n 0, 1) := by decide +kernel
theorem dX3_skip_35 : decode cX3_skip 35 = .ok (.iconst 2, 1) := by decide +kernel
theorem dX3_skip_36 : decode cX3_skip 36 = .ok (.iload_n 1, 1) := by decide +kernel
theorem dX3_skip_37 : decode cX3_skip 37 = .ok (.iload_n 2, 1) := by decide +kernel
theorem dX3_skip_38 : decode cX3_skip 38 = .ok (.iload_n 3, 1) := by decide +kernel
theorem dX3_skip_39 : decode cX3_skip 39 = .ok (.invokevirtual 45, 3) := by decide +kernel
theorem dX3_skip_42 : decode cX3_skip 42 = .ok (.ireturn, 1) := by decide +kernel
set_option maxRecDepth 20000 in
theorem ggX3_total_X3_needPart : GoodIn wsX3_total wsX3_needPart := goodIn_ca (goodIn_r _ [6, 7, 8, 9, 10, 5, 11] (by decide +kernel) (by decide +kernel)) (goodIn_sub (fun _ h => List.mem_cons_of_mem _ (List.mem_append_left _ (List.mem_append_left _ (List.mem_append_right _ h)))) (by decide +kernel))
set_option maxRecDepth 20000 in
theorem gX3_total_X3_needPart : GoodIn wsX3_total (va_wsS RX3 33 yX3_needPart wsX3_needPart) := goodIn_app (goodIn_of _ (by decide +kernel)) ggX3_total_X3_needPart
set_option maxRecDepth 20000 in
theorem ggX3_total_X3_isWithin : GoodIn wsX3_total wsX3_isWithin := goodIn_r _ [11] (by decide +kernel) (by decide +kernel)
set_option maxRecDepth 20000 in
theorem gX3_total_X3_isWithin : GoodIn wsX3_total (va_wsS RX3 37 yX3_isWithin wsX3_isWithin) := goodIn_app (goodIn_of _ (by decide +kernel)) ggX3_total_X3_isWithin
set_option maxRecDepth 20000 in
theorem ggX3_total_X0_canCarry : GoodIn wsX3_total wsX0_canCarry := goodIn_r _ [15, 16, 17, 5, 18, 19, 20, 21, 22, 23, 13, 24, 25, 75, 76, 77, 78, 79, 80, 81] (by decide +kernel) (by decide +kernel)
set_option maxRecDepth 20000 in
theorem gX3_total_X0_canCarry_n50 : GoodIn wsX3_total (wsX0_canCarry) := ggX3_total_X0_canCarry
set_option maxRecDepth 20000 in
theorem ggX3_total_X3_needArgument : GoodIn wsX3_total wsX3_needArgument := goodIn_ca (goodIn_r _ [28, 29, 30] (by decide +kernel) (by decide +kernel)) (goodIn_sub (fun _ h => List.mem_cons_of_mem _ (List.mem_append_left _ (List.mem_append_right _ h))) (by decide +kernel))
set_option maxRecDepth 20000 in
theorem gX3_total_X3_needArgument : GoodIn wsX3_total (va_wsS RX3 41 yX3_needArgument wsX3_needArgument) := goodIn_app (goodIn_of _ (by decide +kernel)) ggX3_total_X3_needArgument
set_option maxRecDepth 20000 in
theorem ggX3_total_X3_addNew : GoodIn wsX3_total wsX3_addNew := goodIn_ca (goodIn_r _ [34, 2, 35, 36, 13, 37, 38, 25, 39, 40, 5, 41, 42, 43, 44, 45, 46, 47, 48, 49, 50, 51, 52, 53, 54, 55, 56, 57, 58, 59, 60, 61, 16, 62, 63, 64, 65, 17, 18, 66, 67, 68, 69, 70, 71, 72, 73, 74, 75, 76, 77, 78, 79, 80, 81, 82, 83, 84] (by decide +kernel) (by decide +kernel)) (goodIn_sub (fun _ h => List.mem_cons_of_mem _ (List.mem_append_right _ h)) (by decide +kernel))
set_option maxRecDepth 20000 in
theorem gX3_total_X3_addNew : GoodIn wsX3_total (wsV RX3 45 RX3 yX3_addNew wsX3_addNew) := goodIn_app (goodIn_of _ (by decide +kernel)) ggX3_total_X3_addNew
theorem dX3_total_0 : decode cX3_total 0 = .ok (.iload_n 1, 1) := by decide +kernel
theorem dX3_total_1 : decode cX3_total 1 = .ok (.iconst 4, 1) := by decide +kernel
theorem dX3_total_2 : decode cX3_total 2 = .ok (.invokestatic 33, 3) := by decide +kernel
theorem dX3_total_5 : decode cX3_total 5 = .ok (.iload_n 2, 1) := by decide +kernel
theorem dX3_total_6 : decode cX3_total 6 = .ok (.iconst 0, 1) := by decide +kernel
theorem dX3_total_7 : decode cX3_total 7 = .ok (.ldc 49, 2) := by decide +kernel
theorem dX3_total_9 : decode cX3_total 9 = .ok (.invokestatic 37, 3) := by decide +kernel
theorem dX3_total_12 : decode cX3_total 12 = .ok (.ifCond .eq 18, 3) := by decide +kernel
theorem dX3_total_15 : decode cX3_total 15 = .ok (.aload_n 0, 1) := by decide +kernel
theorem dX3_total_16 : decode cX3_total 16 = .ok (.getfield 10, 3) := by decide +kernel
theorem dX3_total_19 : decode cX3_total 19 = .ok (.iload_n 2, 1) := by decide +kernel
theorem dX3_total_20 : decode cX3_total 20 = .ok (.invokevirtual 50, 3) := by decide +kernel
theorem dX3_total_23 : decode cX3_total 23 = .ok (.ifCond .eq 7, 3) := by decide +kernel
theorem dX3_total_26 : decode cX3_total 26 = .ok (.iconst 1, 1) := by decide +kernel
theorem dX3_total_27 : decode cX3_total 27 = .ok (.goto 4, 3) := by decide +kernel
theorem dX3_total_30 : decode cX3_total 30 = .ok (.iconst 0, 1) := by decide +kernel
theorem dX3_total_31 : decode cX3_total 31 = .ok (.invokestatic 41, 3) := by decide +kernel
theorem dX3_total_34 : decode cX3_total 34 = .ok (.aload_n 0, 1) := by decide +kernel
theorem dX3_total_35 : decode cX3_total 35 = .ok (.iconst 3, 1) := by decide +kernel
theorem dX3_total_36 : decode cX3_total 36 = .ok (.iload_n 1, 1) := by decide +kernel
theorem dX3_total_37 : decode cX3_total 37 = .ok (.iload_n 2, 1) := by decide +kernel
theorem dX3_total_38 : decode cX3_total 38 = .ok (.iconst (-1), 1) := by decide +kernel
theorem dX3_total_39 : decode cX3_total 39 = .ok (.invokevirtual 45, 3) := by decide +kernel
theorem dX3_total_42 : decode cX3_total 42 = .ok (.ireturn, 1) := by decide +kernel
set_option maxRecDepth 20000 in
theorem ggX3_drop_X0_size : GoodIn wsX3_drop wsX0_size := goodIn_r _ [6, 7, 51, 52, 53, 54, 55, 56, 57] (by decide +kernel) (by decide +kernel)
set_option maxRecDepth 20000 in
theorem gX3_drop_X0_size_n54 : GoodIn wsX3_drop (wsX0_size) := ggX3_drop_X0_size
set_option maxRecDepth 20000 in
theorem ggX3_drop_X3_needState : GoodIn wsX3_drop wsX3_needState := goodIn_ca (goodIn_r _ [11, 12, 13] (by decide +kernel) (by decide +kernel)) (goodIn_sub (fun _ h => List.mem_cons_of_mem _ (List.mem_append_right _ h)) (by decide +kernel))
set_option maxRecDepth 20000 in
theorem gX3_drop_X3_needState : GoodIn wsX3_drop (va_wsS RX3 58 yX3_needState wsX3_needState) := goodIn_app (goodIn_of _ (by decide +kernel)) ggX3_drop_X3_needState
set_option maxRecDepth 20000 in
theorem ggX3_drop_X1_save : GoodIn wsX3_drop wsX1_save := goodIn_r _ [17, 18, 19, 20, 21, 22, 23, 24, 25, 26, 15, 27, 28, 29, 4, 30, 31, 7, 32, 33, 34, 35, 36, 37, 10, 38, 39, 40, 58, 59, 60, 51, 52, 53, 54, 55, 56, 57] (by decide +kernel) (by decide +kernel)
set_option maxRecDepth 20000 in
theorem gX3_drop_X1_save_n61 : GoodIn wsX3_drop (wsX1_save) := ggX3_drop_X1_save
set_option maxRecDepth 20000 in
theorem ggX3_drop_X0_kindOf : GoodIn wsX3_drop wsX0_kindOf := goodIn_r _ [43, 32, 37, 10, 38, 51, 52, 53, 54, 55, 56, 57] (by decide +kernel) (by decide +kernel)
set_option maxRecDepth 20000 in
theorem gX3_drop_X0_kindOf_n65 : GoodIn wsX3_drop (wsX0_kindOf) := ggX3_drop_X0_kindOf
set_option maxRecDepth 20000 in
theorem ggX3_drop_X0_removeLast : GoodIn wsX3_drop wsX0_removeLast := goodIn_r _ [46, 7, 51, 52, 53, 54, 55, 56, 57] (by decide +kernel) (by decide +kernel)
set_option maxRecDepth 20000 in
theorem gX3_drop_X0_removeLast_n69 : GoodIn wsX3_drop (wsX0_removeLast) := ggX3_drop_X0_removeLast
theorem dX3_drop_0 : decode cX3_drop 0 = .ok (.aload_n 0, 1) := by decide +kernel
theorem dX3_drop_1 : decode cX3_drop 1 = .ok (.getfield 10, 3) := by decide +kernel
theorem dX3_drop_4 : decode cX3_drop 4 = .ok (.invokevirtual 54, 3) := by decide +kernel
theorem dX3_drop_7 : decode cX3_drop 7 = .ok (.iconst 1, 1) := by decide +kernel
theorem dX3_drop_8 : decode cX3_drop 8 = .ok (.isub, 1) := by decide +kernel
theorem dX3_drop_9 : decode cX3_drop 9 = .ok (.istore_n 1, 1) := by decide +kernel
theorem dX3_drop_10 : decode cX3_drop 10 = .ok (.iload_n 1, 1) := by decide +kernel
theorem dX3_drop_11 : decode cX3_drop 11 = .ok (.ifCond .lt 7, 3) := by decide +kernel
theorem dX3_drop_14 : decode cX3_drop 14 = .ok (.iconst 1, 1) := by decide +kernel
