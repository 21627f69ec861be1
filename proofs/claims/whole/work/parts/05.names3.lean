theorem dX3_drop_15 : decode cX3_drop 15 = .ok (.goto 4, 3) := by decide +kernel
theorem dX3_drop_18 : decode cX3_drop 18 = .ok (.iconst 0, 1) := by decide +kernel
theorem dX3_drop_19 : decode cX3_drop 19 = .ok (.invokestatic 58, 3) := by decide +kernel
theorem dX3_drop_22 : decode cX3_drop 22 = .ok (.aload_n 0, 1) := by decide +kernel
theorem dX3_drop_23 : decode cX3_drop 23 = .ok (.getfield 22, 3) := by decide +kernel
theorem dX3_drop_26 : decode cX3_drop 26 = .ok (.aload_n 0, 1) := by decide +kernel
theorem dX3_drop_27 : decode cX3_drop 27 = .ok (.getfield 10, 3) := by decide +kernel
theorem dX3_drop_30 : decode cX3_drop 30 = .ok (.invokevirtual 61, 3) := by decide +kernel
theorem dX3_drop_33 : decode cX3_drop 33 = .ok (.aload_n 0, 1) := by decide +kernel
theorem dX3_drop_34 : decode cX3_drop 34 = .ok (.getfield 10, 3) := by decide +kernel
theorem dX3_drop_37 : decode cX3_drop 37 = .ok (.iload_n 1, 1) := by decide +kernel
theorem dX3_drop_38 : decode cX3_drop 38 = .ok (.invokevirtual 65, 3) := by decide +kernel
theorem dX3_drop_41 : decode cX3_drop 41 = .ok (.istore_n 2, 1) := by decide +kernel
theorem dX3_drop_42 : decode cX3_drop 42 = .ok (.aload_n 0, 1) := by decide +kernel
theorem dX3_drop_43 : decode cX3_drop 43 = .ok (.getfield 10, 3) := by decide +kernel
theorem dX3_drop_46 : decode cX3_drop 46 = .ok (.invokevirtual 69, 3) := by decide +kernel
theorem dX3_drop_49 : decode cX3_drop 49 = .ok (.iload_n 2, 1) := by decide +kernel
theorem dX3_drop_50 : decode cX3_drop 50 = .ok (.ireturn, 1) := by decide +kernel
set_option maxRecDepth 20000 in
theorem ggX3_answer_X3_needBox : GoodIn wsX3_answer wsX3_needBox := goodIn_ca (goodIn_r _ [7, 8, 9, 1, 10, 11, 12, 13, 14, 94, 95, 96, 97, 98, 99, 100, 101, 102, 103, 104] (by decide +kernel) (by decide +kernel)) (goodIn_sub (fun _ h => List.mem_cons_of_mem _ (List.mem_append_left _ (List.mem_append_right _ h))) (by decide +kernel))
set_option maxRecDepth 20000 in
theorem gX3_answer_X3_needBox : GoodIn wsX3_answer (wsV RX3 72 RX3 yX3_needBox wsX3_needBox) := goodIn_app (goodIn_of _ (by decide +kernel)) ggX3_answer_X3_needBox
set_option maxRecDepth 20000 in
theorem ggX3_answer_X0_fits : GoodIn wsX3_answer wsX0_fits := goodIn_r _ [17, 18, 19, 20, 11, 21, 22, 23, 24, 6, 25, 26, 27, 28, 29, 30, 98, 99, 100, 101, 102, 103, 104] (by decide +kernel) (by decide +kernel)
set_option maxRecDepth 20000 in
theorem gX3_answer_X0_fits_n76 : GoodIn wsX3_answer (wsX0_fits) := ggX3_answer_X0_fits
set_option maxRecDepth 20000 in
theorem ggX3_answer_X3_needArgument : GoodIn wsX3_answer wsX3_needArgument := goodIn_ca (goodIn_r _ [33, 34, 35] (by decide +kernel) (by decide +kernel)) (goodIn_sub (fun _ h => List.mem_cons_of_mem _ (List.mem_append_right _ h)) (by decide +kernel))
set_option maxRecDepth 20000 in
theorem gX3_answer_X3_needArgument : GoodIn wsX3_answer (va_wsS RX3 41 yX3_needArgument wsX3_needArgument) := goodIn_app (goodIn_of _ (by decide +kernel)) ggX3_answer_X3_needArgument
set_option maxRecDepth 20000 in
theorem ggX3_answer_X1_save : GoodIn wsX3_answer wsX1_save := goodIn_r _ [39, 40, 41, 42, 43, 44, 45, 46, 47, 48, 37, 49, 50, 51, 11, 52, 53, 14, 22, 54, 23, 55, 56, 24, 6, 25, 57, 58, 105, 106, 107, 98, 99, 100, 101, 102, 103, 104] (by decide +kernel) (by decide +kernel)
set_option maxRecDepth 20000 in
theorem gX3_answer_X1_save_n61 : GoodIn wsX3_answer (wsX1_save) := ggX3_answer_X1_save
set_option maxRecDepth 20000 in
theorem ggX3_answer_X0_give : GoodIn wsX3_answer wsX0_give := goodIn_r _ [61, 56, 57, 6, 58, 98, 99, 100, 101, 102, 103, 104] (by decide +kernel) (by decide +kernel)
set_option maxRecDepth 20000 in
theorem gX3_answer_X0_give_n80 : GoodIn wsX3_answer (wsX0_give) := ggX3_answer_X0_give
set_option maxRecDepth 20000 in
theorem ggX3_answer_X0_openParts : GoodIn wsX3_answer wsX0_openParts := goodIn_r _ [64, 65, 66, 67, 11, 68, 14, 56, 69, 70, 71, 72, 22, 23, 24, 6, 25, 73, 74, 75, 76, 54, 77, 78, 79, 80, 81, 82, 55, 83, 84, 85, 86, 98, 99, 100, 101, 102, 103, 104] (by decide +kernel) (by decide +kernel)
set_option maxRecDepth 20000 in
theorem gX3_answer_X0_openParts_n83 : GoodIn wsX3_answer (wsX0_openParts) := ggX3_answer_X0_openParts
set_option maxRecDepth 20000 in
theorem ggX3_answer_X0_wanting : GoodIn wsX3_answer wsX0_wanting := goodIn_r _ [89, 14, 90, 91, 92, 11, 93, 73, 74, 75, 76, 54, 24, 6, 25, 77, 78, 83, 84, 85, 86, 22, 56, 98, 99, 100, 101, 102, 103, 104] (by decide +kernel) (by decide +kernel)
set_option maxRecDepth 20000 in
theorem gX3_answer_X0_wanting_n86 : GoodIn wsX3_answer (wsX0_wanting) := ggX3_answer_X0_wanting
theorem dX3_answer_0 : decode cX3_answer 0 = .ok (.aload_n 0, 1) := by decide +kernel
theorem dX3_answer_1 : decode cX3_answer 1 = .ok (.iload_n 1, 1) := by decide +kernel
theorem dX3_answer_2 : decode cX3_answer 2 = .ok (.invokevirtual 72, 3) := by decide +kernel
theorem dX3_answer_5 : decode cX3_answer 5 = .ok (.aload_n 0, 1) := by decide +kernel
theorem dX3_answer_6 : decode cX3_answer 6 = .ok (.getfield 10, 3) := by decide +kernel
theorem dX3_answer_9 : decode cX3_answer 9 = .ok (.iload_n 1, 1) := by decide +kernel
theorem dX3_answer_10 : decode cX3_answer 10 = .ok (.iload_n 2, 1) := by decide +kernel
theorem dX3_answer_11 : decode cX3_answer 11 = .ok (.invokevirtual 76, 3) := by decide +kernel
theorem dX3_answer_14 : decode cX3_answer 14 = .ok (.invokestatic 41, 3) := by decide +kernel
theorem dX3_answer_17 : decode cX3_answer 17 = .ok (.aload_n 0, 1) := by decide +kernel
theorem dX3_answer_18 : decode cX3_answer 18 = .ok (.getfield 22, 3) := by decide +kernel
theorem dX3_answer_21 : decode cX3_answer 21 = .ok (.aload_n 0, 1) := by decide +kernel
theorem dX3_answer_22 : decode cX3_answer 22 = .ok (.getfield 10, 3) := by decide +kernel
theorem dX3_answer_25 : decode cX3_answer 25 = .ok (.invokevirtual 61, 3) := by decide +kernel
theorem dX3_answer_28 : decode cX3_answer 28 = .ok (.aload_n 0, 1) := by decide +kernel
theorem dX3_answer_29 : decode cX3_answer 29 = .ok (.getfield 10, 3) := by decide +kernel
theorem dX3_answer_32 : decode cX3_answer 32 = .ok (.iload_n 1, 1) := by decide +kernel
theorem dX3_answer_33 : decode cX3_answer 33 = .ok (.iload_n 2, 1) := by decide +kernel
theorem dX3_answer_34 : decode cX3_answer 34 = .ok (.invokevirtual 80, 3) := by decide +kernel
theorem dX3_answer_37 : decode cX3_answer 37 = .ok (.aload_n 0, 1) := by decide +kernel
theorem dX3_answer_38 : decode cX3_answer 38 = .ok (.getfield 10, 3) := by decide +kernel
theorem dX3_answer_41 : decode cX3_answer 41 = .ok (.aload_n 0, 1) := by decide +kernel
theorem dX3_answer_42 : decode cX3_answer 42 = .ok (.getfield 10, 3) := by decide +kernel
theorem dX3_answer_45 : decode cX3_answer 45 = .ok (.invokevirtual 83, 3) := by decide +kernel
theorem dX3_answer_48 : decode cX3_answer 48 = .ok (.invokevirtual 86, 3) := by decide +kernel
theorem dX3_answer_51 : decode cX3_answer 51 = .ok (.ireturn, 1) := by decide +kernel
set_option maxRecDepth 20000 in
theorem ggX3_clear_X1_save : GoodIn wsX3_clear wsX1_save := goodIn_r _ [6, 7, 8, 9, 10, 11, 12, 13, 14, 15, 4, 16, 17, 18, 19, 20, 21, 22, 23, 24, 25, 26, 27, 28, 29, 30, 31, 32, 46, 47, 48, 49, 50, 51, 52, 53, 54, 55] (by decide +kernel) (by decide +kernel)
set_option maxRecDepth 20000 in
theorem gX3_clear_X1_save_n61 : GoodIn wsX3_clear (wsX1_save) := ggX3_clear_X1_save
set_option maxRecDepth 20000 in
theorem ggX3_clear_X0_answered : GoodIn wsX3_clear wsX0_answered := goodIn_r _ [35, 22, 27, 28, 29, 30, 49, 50, 51, 52, 53, 54, 55] (by decide +kernel) (by decide +kernel)
set_option maxRecDepth 20000 in
theorem gX3_clear_X0_answered_n89 : GoodIn wsX3_clear (wsX0_answered) := ggX3_clear_X0_answered
set_option maxRecDepth 20000 in
theorem ggX3_clear_X0_size : GoodIn wsX3_clear wsX0_size := goodIn_r _ [38, 22, 49, 50, 51, 52, 53, 54, 55] (by decide +kernel) (by decide +kernel)
set_option maxRecDepth 20000 in
theorem gX3_clear_X0_size_n54 : GoodIn wsX3_clear (wsX0_size) := ggX3_clear_X0_size
set_option maxRecDepth 20000 in
theorem ggX3_clear_X0_give : GoodIn wsX3_clear wsX0_give := goodIn_r _ [41, 27, 31, 29, 32, 49, 50, 51, 52, 53, 54, 55] (by decide +kernel) (by decide +kernel)
set_option maxRecDepth 20000 in
theorem gX3_clear_X0_give_n80 : GoodIn wsX3_clear (wsX0_give) := ggX3_clear_X0_give
theorem dX3_clear_0 : decode cX3_clear 0 = .ok (.aload_n 0, 1) := by decide +kernel
theorem dX3_clear_1 : decode cX3_clear 1 = .ok (.getfield 22, 3) := by decide +kernel
theorem dX3_clear_4 : decode cX3_clear 4 = .ok (.aload_n 0, 1) := by decide +kernel
theorem dX3_clear_5 : decode cX3_clear 5 = .ok (.getfield 10, 3) := by decide +kernel
theorem dX3_clear_8 : decode cX3_clear 8 = .ok (.invokevirtual 61, 3) := by decide +kernel
theorem dX3_clear_11 : decode cX3_clear 11 = .ok (.aload_n 0, 1) := by decide +kernel
theorem dX3_clear_12 : decode cX3_clear 12 = .ok (.getfield 10, 3) := by decide +kernel
theorem dX3_clear_15 : decode cX3_clear 15 = .ok (.invokevirtual 89, 3) := by decide +kernel
theorem dX3_clear_18 : decode cX3_clear 18 = .ok (.istore_n 1, 1) := by decide +kernel
theorem dX3_clear_19 : decode cX3_clear 19 = .ok (.aload_n 0, 1) := by decide +kernel
theorem dX3_clear_20 : decode cX3_clear 20 = .ok (.getfield 10, 3) := by decide +kernel
theorem dX3_clear_23 : decode cX3_clear 23 = .ok (.invokevirtual 54, 3) := by decide +kernel
theorem dX3_clear_26 : decode cX3_clear 26 = .ok (.istore_n 2, 1) := by decide +kernel
theorem dX3_clear_27 : decode cX3_clear 27 = .ok (.iconst 0, 1) := by decide +kernel
theorem dX3_clear_28 : decode cX3_clear 28 = .ok (.istore_n 3, 1) := by decide +kernel
theorem dX3_clear_29 : decode cX3_clear 29 = .ok (.iload_n 3, 1) := by decide +kernel
theorem dX3_clear_30 : decode cX3_clear 30 = .ok (.iload_n 2, 1) := by decide +kernel
theorem dX3_clear_31 : decode cX3_clear 31 = .ok (.if_icmp .ge 18, 3) := by decide +kernel
theorem dX3_clear_34 : decode cX3_clear 34 = .ok (.aload_n 0, 1) := by decide +kernel
theorem dX3_clear_35 : decode cX3_clear 35 = .ok (.getfield 10, 3) := by decide +kernel
theorem dX3_clear_38 : decode cX3_clear 38 = .ok (.iload_n 3, 1) := by decide +kernel
theorem dX3_clear_39 : decode cX3_clear 39 = .ok (.iconst (-1), 1) := by decide +kernel
theorem dX3_clear_40 : decode cX3_clear 40 = .ok (.invokevirtual 80, 3) := by decide +kernel
theorem dX3_clear_43 : decode cX3_clear 43 = .ok (.iinc 3 1, 3) := by decide +kernel
theorem dX3_clear_46 : decode cX3_clear 46 = .ok (.goto (-17), 3) := by decide +kernel
theorem dX3_clear_49 : decode cX3_clear 49 = .ok (.iload_n 1, 1) := by decide +kernel
theorem dX3_clear_50 : decode cX3_clear 50 = .ok (.ireturn, 1) := by decide +kernel
set_option maxRecDepth 20000 in
theorem ggX3_append_X3_isWithin : GoodIn wsX3_append wsX3_isWithin := goodIn_r _ [5] (by decide +kernel) (by decide +kernel)
set_option maxRecDepth 20000 in
theorem gX3_append_X3_isWithin : GoodIn wsX3_append (va_wsS RX3 37 yX3_isWithin wsX3_isWithin) := goodIn_app (goodIn_of _ (by decide +kernel)) ggX3_append_X3_isWithin
set_option maxRecDepth 20000 in
theorem ggX3_append_X3_needArgument : GoodIn wsX3_append wsX3_needArgument := goodIn_ca (goodIn_r _ [8, 9, 10] (by decide +kernel) (by decide +kernel)) (goodIn_sub (fun _ h => List.mem_cons_of_mem _ (List.mem_append_left _ (List.mem_append_right _ h))) (by decide +kernel))
set_option maxRecDepth 20000 in
theorem gX3_append_X3_needArgument : GoodIn wsX3_append (va_wsS RX3 41 yX3_needArgument wsX3_needArgument) := goodIn_app (goodIn_of _ (by decide +kernel)) ggX3_append_X3_needArgument
set_option maxRecDepth 20000 in
theorem ggX3_append_X2_length : GoodIn wsX3_append wsX2_length := goodIn_r _ [14, 15, 31, 32] (by decide +kernel) (by decide +kernel)
set_option maxRecDepth 20000 in
theorem gX3_append_X2_length_n92 : GoodIn wsX3_append (wsX2_length) := ggX3_append_X2_length
set_option maxRecDepth 20000 in
theorem ggX3_append_X3_needState : GoodIn wsX3_append wsX3_needState := goodIn_ca (goodIn_r _ [18, 19, 20] (by decide +kernel) (by decide +kernel)) (goodIn_sub (fun _ h => List.mem_cons_of_mem _ (List.mem_append_right _ h)) (by decide +kernel))
set_option maxRecDepth 20000 in
theorem gX3_append_X3_needState : GoodIn wsX3_append (va_wsS RX3 58 yX3_needState wsX3_needState) := goodIn_app (goodIn_of _ (by decide +kernel)) ggX3_append_X3_needState
set_option maxRecDepth 20000 in
theorem ggX3_append_X2_add : GoodIn wsX3_append wsX2_add := goodIn_r _ [23, 24, 15, 25, 4, 26, 31, 32] (by decide +kernel) (by decide +kernel)
set_option maxRecDepth 20000 in
theorem gX3_append_X2_add_n95 : GoodIn wsX3_append (wsX2_add) := ggX3_append_X2_add
theorem dX3_append_0 : decode cX3_append 0 = .ok (.iload_n 1, 1) := by decide +kernel
theorem dX3_append_1 : decode cX3_append 1 = .ok (.bipush 33, 2) := by decide +kernel
theorem dX3_append_3 : decode cX3_append 3 = .ok (.bipush 126, 2) := by decide +kernel
theorem dX3_append_5 : decode cX3_append 5 = .ok (.invokestatic 37, 3) := by decide +kernel
theorem dX3_append_8 : decode cX3_append 8 = .ok (.invokestatic 41, 3) := by decide +kernel
theorem dX3_append_11 : decode cX3_append 11 = .ok (.aload_n 0, 1) := by decide +kernel
theorem dX3_append_12 : decode cX3_append 12 = .ok (.getfield 29, 3) := by decide +kernel
theorem dX3_append_15 : decode cX3_append 15 = .ok (.invokevirtual 92, 3) := by decide +kernel
theorem dX3_append_18 : decode cX3_append 18 = .ok (.bipush 60, 2) := by decide +kernel
theorem dX3_append_20 : decode cX3_append 20 = .ok (.if_icmp .ge 7, 3) := by decide +kernel
theorem dX3_append_23 : decode cX3_append 23 = .ok (.iconst 1, 1) := by decide +kernel
theorem dX3_append_24 : decode cX3_append 24 = .ok (.goto 4, 3) := by decide +kernel
theorem dX3_append_27 : decode cX3_append 27 = .ok (.iconst 0, 1) := by decide +kernel
theorem dX3_append_28 : decode cX3_append 28 = .ok (.invokestatic 58, 3) := by decide +kernel
theorem dX3_append_31 : decode cX3_append 31 = .ok (.aload_n 0, 1) := by decide +kernel
theorem dX3_append_32 : decode cX3_append 32 = .ok (.getfield 29, 3) := by decide +kernel
theorem dX3_append_35 : decode cX3_append 35 = .ok (.iload_n 1, 1) := by decide +kernel
theorem dX3_append_36 : decode cX3_append 36 = .ok (.invokevirtual 95, 3) := by decide +kernel
theorem dX3_append_39 : decode cX3_append 39 = .ok (.aload_n 0, 1) := by decide +kernel
theorem dX3_append_40 : decode cX3_append 40 = .ok (.getfield 29, 3) := by decide +kernel
theorem dX3_append_43 : decode cX3_append 43 = .ok (.invokevirtual 92, 3) := by decide +kernel
theorem dX3_append_46 : decode cX3_append 46 = .ok (.ireturn, 1) := by decide +kernel
set_option maxRecDepth 20000 in
theorem ggX3_clearBuffer_X2_length : GoodIn wsX3_clearBuffer wsX2_length := goodIn_r _ [5, 6, 14, 15] (by decide +kernel) (by decide +kernel)
set_option maxRecDepth 20000 in
theorem gX3_clearBuffer_X2_length_n92 : GoodIn wsX3_clearBuffer (wsX2_length) := ggX3_clearBuffer_X2_length
set_option maxRecDepth 20000 in
theorem ggX3_clearBuffer_X2_empty : GoodIn wsX3_clearBuffer wsX2_empty := goodIn_r _ [9, 6, 14, 15] (by decide +kernel) (by decide +kernel)
set_option maxRecDepth 20000 in
theorem gX3_clearBuffer_X2_empty_n98 : GoodIn wsX3_clearBuffer (wsX2_empty) := ggX3_clearBuffer_X2_empty
theorem dX3_clearBuffer_0 : decode cX3_clearBuffer 0 = .ok (.aload_n 0, 1) := by decide +kernel
theorem dX3_clearBuffer_1 : decode cX3_clearBuffer 1 = .ok (.getfield 29, 3) := by decide +kernel
theorem dX3_clearBuffer_4 : decode cX3_clearBuffer 4 = .ok (.invokevirtual 92, 3) := by decide +kernel
theorem dX3_clearBuffer_7 : decode cX3_clearBuffer 7 = .ok (.istore_n 1, 1) := by decide +kernel
theorem dX3_clearBuffer_8 : decode cX3_clearBuffer 8 = .ok (.aload_n 0, 1) := by decide +kernel
theorem dX3_clearBuffer_9 : decode cX3_clearBuffer 9 = .ok (.getfield 29, 3) := by decide +kernel
theorem dX3_clearBuffer_12 : decode cX3_clearBuffer 12 = .ok (.invokevirtual 98, 3) := by decide +kernel
theorem dX3_clearBuffer_15 : decode cX3_clearBuffer 15 = .ok (.iload_n 1, 1) := by decide +kernel
theorem dX3_clearBuffer_16 : decode cX3_clearBuffer 16 = .ok (.ireturn, 1) := by decide +kernel
set_option maxRecDepth 20000 in
theorem ggX3_firstError_X2_errorAt : GoodIn wsX3_firstError wsX2_errorAt := goodIn_r _ [5, 6, 7, 8, 9, 3, 10, 11, 12, 13, 14, 15, 16, 17, 18, 19, 20, 21, 22, 23, 24, 25, 26, 27, 28, 33, 34] (by decide +kernel) (by decide +kernel)
set_option maxRecDepth 20000 in
theorem gX3_firstError_X2_errorAt_n101 : GoodIn wsX3_firstError (wsX2_errorAt) := ggX3_firstError_X2_errorAt
theorem dX3_firstError_0 : decode cX3_firstError 0 = .ok (.aload_n 0, 1) := by decide +kernel
theorem dX3_firstError_1 : decode cX3_firstError 1 = .ok (.getfield 29, 3) := by decide +kernel
theorem dX3_firstError_4 : decode cX3_firstError 4 = .ok (.invokevirtual 101, 3) := by decide +kernel
theorem dX3_firstError_7 : decode cX3_firstError 7 = .ok (.ireturn, 1) := by decide +kernel
set_option maxRecDepth 20000 in
theorem ggX3_fill_X2_isComplete : GoodIn wsX3_fill wsX2_isComplete := goodIn_r _ [7, 8, 9, 10, 11, 5, 12, 13, 14, 15, 16, 17, 18, 19, 20, 21, 22, 23, 24, 25, 26, 27, 28, 29, 30, 93, 94] (by decide +kernel) (by decide +kernel)
set_option maxRecDepth 20000 in
theorem gX3_fill_X2_isComplete_n104 : GoodIn wsX3_fill (wsX2_isComplete) := ggX3_fill_X2_isComplete
set_option maxRecDepth 20000 in
theorem ggX3_fill_X3_needArgument : GoodIn wsX3_fill wsX3_needArgument := goodIn_ca (goodIn_r _ [33, 34, 35] (by decide +kernel) (by decide +kernel)) (goodIn_sub (fun _ h => List.mem_cons_of_mem _ (List.mem_append_right _ h)) (by decide +kernel))
set_option maxRecDepth 20000 in
theorem gX3_fill_X3_needArgument : GoodIn wsX3_fill (va_wsS RX3 41 yX3_needArgument wsX3_needArgument) := goodIn_app (goodIn_of _ (by decide +kernel)) ggX3_fill_X3_needArgument
set_option maxRecDepth 20000 in
theorem ggX3_fill_X1_save : GoodIn wsX3_fill wsX1_save := goodIn_r _ [39, 40, 41, 42, 43, 44, 45, 46, 47, 48, 37, 49, 50, 51, 52, 53, 54, 55, 56, 57, 58, 59, 60, 14, 15, 16, 61, 62, 95, 96, 97, 98, 99, 100, 101, 102, 103, 104] (by decide +kernel) (by decide +kernel)
set_option maxRecDepth 20000 in
theorem gX3_fill_X1_save_n61 : GoodIn wsX3_fill (wsX1_save) := ggX3_fill_X1_save
set_option maxRecDepth 20000 in
theorem ggX3_fill_X3_giveAnswersOfText : GoodIn wsX3_fill wsX3_giveAnswersOfText := goodIn_r _ [66, 1, 3, 67, 5, 68, 69, 8, 10, 11, 12, 13, 14, 15, 16, 70, 52, 71, 72, 55, 73, 74, 75, 76, 77, 78, 79, 56, 58, 80, 81, 82, 23, 24, 83, 84, 85, 60, 61, 62, 89, 90, 91, 92, 93, 94, 98, 99, 100, 101, 102, 103, 104] (by decide +kernel) (by decide +kernel)
set_option maxRecDepth 20000 in
theorem gX3_fill_X3_giveAnswersOfText : GoodIn wsX3_fill (wsV RX3 108 RX3 yX3_giveAnswersOfText wsX3_giveAnswersOfText) := goodIn_app (goodIn_of _ (by decide +kernel)) ggX3_fill_X3_giveAnswersOfText
set_option maxRecDepth 20000 in
theorem ggX3_fill_X2_empty : GoodIn wsX3_fill wsX2_empty := goodIn_r _ [88, 8, 93, 94] (by decide +kernel) (by decide +kernel)
set_option maxRecDepth 20000 in
theorem gX3_fill_X2_empty_n98 : GoodIn wsX3_fill (wsX2_empty) := ggX3_fill_X2_empty
theorem dX3_fill_0 : decode cX3_fill 0 = .ok (.aload_n 0, 1) := by decide +kernel
theorem dX3_fill_1 : decode cX3_fill 1 = .ok (.getfield 29, 3) := by decide +kernel
theorem dX3_fill_4 : decode cX3_fill 4 = .ok (.invokevirtual 104, 3) := by decide +kernel
theorem dX3_fill_7 : decode cX3_fill 7 = .ok (.invokestatic 41, 3) := by decide +kernel
theorem dX3_fill_10 : decode cX3_fill 10 = .ok (.aload_n 0, 1) := by decide +kernel
theorem dX3_fill_11 : decode cX3_fill 11 = .ok (.getfield 22, 3) := by decide +kernel
theorem dX3_fill_14 : decode cX3_fill 14 = .ok (.aload_n 0, 1) := by decide +kernel
theorem dX3_fill_15 : decode cX3_fill 15 = .ok (.getfield 10, 3) := by decide +kernel
theorem dX3_fill_18 : decode cX3_fill 18 = .ok (.invokevirtual 61, 3) := by decide +kernel
theorem dX3_fill_21 : decode cX3_fill 21 = .ok (.aload_n 0, 1) := by decide +kernel
theorem dX3_fill_22 : decode cX3_fill 22 = .ok (.invokevirtual 108, 3) := by decide +kernel
theorem dX3_fill_25 : decode cX3_fill 25 = .ok (.istore_n 1, 1) := by decide +kernel
theorem dX3_fill_26 : decode cX3_fill 26 = .ok (.aload_n 0, 1) := by decide +kernel
theorem dX3_fill_27 : decode cX3_fill 27 = .ok (.getfield 29, 3) := by decide +kernel
theorem dX3_fill_30 : decode cX3_fill 30 = .ok (.invokevirtual 98, 3) := by decide +kernel
theorem dX3_fill_33 : decode cX3_fill 33 = .ok (.iload_n 1, 1) := by decide +kernel
theorem dX3_fill_34 : decode cX3_fill 34 = .ok (.ireturn, 1) := by decide +kernel
set_option maxRecDepth 20000 in
theorem ggX3_undo_X1_size : GoodIn wsX3_undo wsX1_size := goodIn_r _ [6, 7, 41, 42, 43] (by decide +kernel) (by decide +kernel)
set_option maxRecDepth 20000 in
theorem gX3_undo_X1_size_n111 : GoodIn wsX3_undo (wsX1_size) := ggX3_undo_X1_size
set_option maxRecDepth 20000 in
theorem ggX3_undo_X3_needState : GoodIn wsX3_undo wsX3_needState := goodIn_ca (goodIn_r _ [11, 12, 13] (by decide +kernel) (by decide +kernel)) (goodIn_sub (fun _ h => List.mem_cons_of_mem _ (List.mem_append_right _ h)) (by decide +kernel))
set_option maxRecDepth 20000 in
theorem gX3_undo_X3_needState : GoodIn wsX3_undo (va_wsS RX3 58 yX3_needState wsX3_needState) := goodIn_app (goodIn_of _ (by decide +kernel)) ggX3_undo_X3_needState
set_option maxRecDepth 20000 in
theorem ggX3_undo_X1_restore : GoodIn wsX3_undo wsX1_restore := goodIn_r _ [16, 17, 7, 18, 19, 20, 4, 21, 22, 23, 24, 25, 26, 27, 28, 29, 30, 31, 32, 33, 10, 34, 35, 36, 41, 42, 43, 44, 45, 46, 47, 48, 49, 50] (by decide +kernel) (by decide +kernel)
set_option maxRecDepth 20000 in
theorem gX3_undo_X1_restore_n112 : GoodIn wsX3_undo (wsX1_restore) := ggX3_undo_X1_restore
theorem dX3_undo_0 : decode cX3_undo 0 = .ok (.aload_n 0, 1) := by decide +kernel
theorem dX3_undo_1 : decode cX3_undo 1 = .ok (.getfield 22, 3) := by decide +kernel
theorem dX3_undo_4 : decode cX3_undo 4 = .ok (.invokevirtual 111, 3) := by decide +kernel
theorem dX3_undo_7 : decode cX3_undo 7 = .ok (.ifCond .le 7, 3) := by decide +kernel
theorem dX3_undo_10 : decode cX3_undo 10 = .ok (.iconst 1, 1) := by decide +kernel
theorem dX3_undo_11 : decode cX3_undo 11 = .ok (.goto 4, 3) := by decide +kernel
theorem dX3_undo_14 : decode cX3_undo 14 = .ok (.iconst 0, 1) := by decide +kernel
theorem dX3_undo_15 : decode cX3_undo 15 = .ok (.invokestatic 58, 3) := by decide +kernel
theorem dX3_undo_18 : decode cX3_undo 18 = .ok (.aload_n 0, 1) := by decide +kernel
theorem dX3_undo_19 : decode cX3_undo 19 = .ok (.getfield 22, 3) := by decide +kernel
theorem dX3_undo_22 : decode cX3_undo 22 = .ok (.aload_n 0, 1) := by decide +kernel
theorem dX3_undo_23 : decode cX3_undo 23 = .ok (.getfield 10, 3) := by decide +kernel
theorem dX3_undo_26 : decode cX3_undo 26 = .ok (.invokevirtual 112, 3) := by decide +kernel
theorem dX3_undo_29 : decode cX3_undo 29 = .ok (.aload_n 0, 1) := by decide +kernel
theorem dX3_undo_30 : decode cX3_undo 30 = .ok (.getfield 22, 3) := by decide +kernel
theorem dX3_undo_33 : decode cX3_undo 33 = .ok (.invokevirtual 111, 3) := by decide +kernel
theorem dX3_undo_36 : decode cX3_undo 36 = .ok (.ireturn, 1) := by decide +kernel
set_option maxRecDepth 20000 in
theorem ggX3_box_X3_needBox : GoodIn wsX3_box wsX3_needBox := goodIn_ca (goodIn_r _ [6, 7, 8, 1, 9, 10, 11, 12, 13, 95, 96, 97, 98, 99, 100, 101, 102, 103, 104, 105] (by decide +kernel) (by decide +kernel)) (goodIn_sub (fun _ h => List.mem_cons_of_mem _ (List.mem_append_left _ (List.mem_append_right _ h))) (by decide +kernel))
set_option maxRecDepth 20000 in
theorem gX3_box_X3_needBox : GoodIn wsX3_box (wsV RX3 72 RX3 yX3_needBox wsX3_needBox) := goodIn_app (goodIn_of _ (by decide +kernel)) ggX3_box_X3_needBox
set_option maxRecDepth 20000 in
theorem ggX3_box_X3_isWithin : GoodIn wsX3_box wsX3_isWithin := goodIn_r _ [16] (by decide +kernel) (by decide +kernel)
set_option maxRecDepth 20000 in
theorem gX3_box_X3_isWithin : GoodIn wsX3_box (va_wsS RX3 37 yX3_isWithin wsX3_isWithin) := goodIn_app (goodIn_of _ (by decide +kernel)) ggX3_box_X3_isWithin
set_option maxRecDepth 20000 in
theorem ggX3_box_X3_needArgument : GoodIn wsX3_box wsX3_needArgument := goodIn_ca (goodIn_r _ [19, 20, 21] (by decide +kernel) (by decide +kernel)) (goodIn_sub (fun _ h => List.mem_cons_of_mem _ (List.mem_append_right _ h)) (by decide +kernel))
set_option maxRecDepth 20000 in
theorem gX3_box_X3_needArgument : GoodIn wsX3_box (va_wsS RX3 41 yX3_needArgument wsX3_needArgument) := goodIn_app (goodIn_of _ (by decide +kernel)) ggX3_box_X3_needArgument
set_option maxRecDepth 20000 in
theorem ggX3_box_X0_openParts : GoodIn wsX3_box wsX0_openParts := goodIn_r _ [24, 25, 26, 27, 10, 28, 13, 29, 30, 31, 32, 33, 34, 35, 36, 5, 37, 38, 39, 40, 41, 42, 43, 44, 45, 46, 47, 48, 49, 50, 51, 52, 53, 99, 100, 101, 102, 103, 104, 105] (by decide +kernel) (by decide +kernel)
set_option maxRecDepth 20000 in
theorem gX3_box_X0_openParts_n83 : GoodIn wsX3_box (wsX0_openParts) := ggX3_box_X0_openParts
set_option maxRecDepth 20000 in
theorem ggX3_box_X3_ofBox : GoodIn wsX3_box wsX3_ofBox := goodIn_r _ [57, 1, 58, 10, 59, 60, 34, 36, 5, 37, 61, 62, 63, 42, 64, 65, 66, 35, 67, 68, 69, 49, 70, 71, 72, 29, 73, 74, 75, 13, 76, 77, 78, 79, 80, 81, 82, 83, 84, 85, 43, 44, 38, 39, 40, 41, 86, 87, 88, 89, 50, 51, 52, 53, 90, 91, 92, 93, 94, 95, 96, 97, 98, 99, 100, 101, 102, 103, 104, 105] (by decide +kernel) (by decide +kernel)
set_option maxRecDepth 20000 in
theorem gX3_box_X3_ofBox : GoodIn wsX3_box (wsV RX3 115 RX3 yX3_ofBox wsX3_ofBox) := goodIn_app (goodIn_of _ (by decide +kernel)) ggX3_box_X3_ofBox
theorem dX3_box_0 : decode cX3_box 0 = .ok (.aload_n 0, 1) := by decide +kernel
theorem dX3_box_1 : decode cX3_box 1 = .ok (.iload_n 1, 1) := by decide +kernel
theorem dX3_box_2 : decode cX3_box 2 = .ok (.invokevirtual 72, 3) := by decide +kernel
theorem dX3_box_5 : decode cX3_box 5 = .ok (.iload_n 2, 1) := by decide +kernel
theorem dX3_box_6 : decode cX3_box 6 = .ok (.iconst 0, 1) := by decide +kernel
theorem dX3_box_7 : decode cX3_box 7 = .ok (.bipush 7, 2) := by decide +kernel
theorem dX3_box_9 : decode cX3_box 9 = .ok (.invokestatic 37, 3) := by decide +kernel
theorem dX3_box_12 : decode cX3_box 12 = .ok (.invokestatic 41, 3) := by decide +kernel
theorem dX3_box_15 : decode cX3_box 15 = .ok (.aload_n 0, 1) := by decide +kernel
theorem dX3_box_16 : decode cX3_box 16 = .ok (.iload_n 1, 1) := by decide +kernel
theorem dX3_box_17 : decode cX3_box 17 = .ok (.iload_n 2, 1) := by decide +kernel
theorem dX3_box_18 : decode cX3_box 18 = .ok (.aload_n 0, 1) := by decide +kernel
theorem dX3_box_19 : decode cX3_box 19 = .ok (.getfield 10, 3) := by decide +kernel
theorem dX3_box_22 : decode cX3_box 22 = .ok (.invokevirtual 83, 3) := by decide +kernel
theorem dX3_box_25 : decode cX3_box 25 = .ok (.invokevirtual 115, 3) := by decide +kernel
theorem dX3_box_28 : decode cX3_box 28 = .ok (.ireturn, 1) := by decide +kernel
set_option maxRecDepth 20000 in
theorem ggX3_part_X3_needPart : GoodIn wsX3_part wsX3_needPart := goodIn_ca (goodIn_r _ [5, 6, 7, 8, 9, 4, 10] (by decide +kernel) (by decide +kernel)) (goodIn_sub (fun _ h => List.mem_cons_of_mem _ (List.mem_append_left _ (List.mem_append_right _ h))) (by decide +kernel))
set_option maxRecDepth 20000 in
theorem gX3_part_X3_needPart : GoodIn wsX3_part (va_wsS RX3 33 yX3_needPart wsX3_needPart) := goodIn_app (goodIn_of _ (by decide +kernel)) ggX3_part_X3_needPart
set_option maxRecDepth 20000 in
theorem ggX3_part_X3_isWithin : GoodIn wsX3_part wsX3_isWithin := goodIn_r _ [10] (by decide +kernel) (by decide +kernel)
set_option maxRecDepth 20000 in
theorem gX3_part_X3_isWithin : GoodIn wsX3_part (va_wsS RX3 37 yX3_isWithin wsX3_isWithin) := goodIn_app (goodIn_of _ (by decide +kernel)) ggX3_part_X3_isWithin
set_option maxRecDepth 20000 in
theorem ggX3_part_X3_needArgument : GoodIn wsX3_part wsX3_needArgument := goodIn_ca (goodIn_r _ [13, 14, 15] (by decide +kernel) (by decide +kernel)) (goodIn_sub (fun _ h => List.mem_cons_of_mem _ (List.mem_append_right _ h)) (by decide +kernel))
set_option maxRecDepth 20000 in
theorem gX3_part_X3_needArgument : GoodIn wsX3_part (va_wsS RX3 41 yX3_needArgument wsX3_needArgument) := goodIn_app (goodIn_of _ (by decide +kernel)) ggX3_part_X3_needArgument
set_option maxRecDepth 20000 in
theorem ggX3_part_X0_openParts : GoodIn wsX3_part wsX0_openParts := goodIn_r _ [19, 20, 21, 22, 17, 23, 24, 25, 26, 27, 28, 29, 30, 31, 32, 4, 33, 34, 35, 36, 37, 38, 39, 40, 41, 42, 43, 44, 45, 46, 47, 48, 49, 72, 73, 74, 75, 76, 77, 78] (by decide +kernel) (by decide +kernel)
set_option maxRecDepth 20000 in
theorem gX3_part_X0_openParts_n83 : GoodIn wsX3_part (wsX0_openParts) := ggX3_part_X0_openParts
set_option maxRecDepth 20000 in
theorem ggX3_part_X3_ofPart : GoodIn wsX3_part wsX3_ofPart := goodIn_r _ [53, 1, 54, 39, 4, 40, 55, 17, 56, 57, 24, 38, 32, 33, 58, 59, 60, 61, 62, 63, 64, 34, 35, 36, 37, 46, 47, 48, 49, 30, 25, 65, 66, 67, 26, 27, 28, 29, 31, 42, 43, 44, 45, 68, 69, 70, 71, 72, 73, 74, 75, 76, 77, 78] (by decide +kernel) (by decide +kernel)
set_option maxRecDepth 20000 in
theorem gX3_part_X3_ofPart : GoodIn wsX3_part (wsV RX3 119 RX3 yX3_ofPart wsX3_ofPart) := goodIn_app (goodIn_of _ (by decide +kernel)) ggX3_part_X3_ofPart
theorem dX3_part_0 : decode cX3_part 0 = .ok (.iload_n 1, 1) := by decide +kernel
theorem dX3_part_1 : decode cX3_part 1 = .ok (.iconst 4, 1) := by decide +kernel
theorem dX3_part_2 : decode cX3_part 2 = .ok (.invokestatic 33, 3) := by decide +kernel
theorem dX3_part_5 : decode cX3_part 5 = .ok (.iload_n 2, 1) := by decide +kernel
theorem dX3_part_6 : decode cX3_part 6 = .ok (.iconst 0, 1) := by decide +kernel
theorem dX3_part_7 : decode cX3_part 7 = .ok (.iconst 5, 1) := by decide +kernel
theorem dX3_part_8 : decode cX3_part 8 = .ok (.invokestatic 37, 3) := by decide +kernel
theorem dX3_part_11 : decode cX3_part 11 = .ok (.invokestatic 41, 3) := by decide +kernel
theorem dX3_part_14 : decode cX3_part 14 = .ok (.aload_n 0, 1) := by decide +kernel
theorem dX3_part_15 : decode cX3_part 15 = .ok (.iload_n 1, 1) := by decide +kernel
theorem dX3_part_16 : decode cX3_part 16 = .ok (.iload_n 2, 1) := by decide +kernel
theorem dX3_part_17 : decode cX3_part 17 = .ok (.aload_n 0, 1) := by decide +kernel
theorem dX3_part_18 : decode cX3_part 18 = .ok (.getfield 10, 3) := by decide +kernel
theorem dX3_part_21 : decode cX3_part 21 = .ok (.invokevirtual 83, 3) := by decide +kernel
theorem dX3_part_24 : decode cX3_part 24 = .ok (.invokevirtual 119, 3) := by decide +kernel
theorem dX3_part_27 : decode cX3_part 27 = .ok (.ireturn, 1) := by decide +kernel
set_option maxRecDepth 20000 in
theorem ggX3_count_X3_isWithin : GoodIn wsX3_count wsX3_isWithin := goodIn_r _ [5] (by decide +kernel) (by decide +kernel)
set_option maxRecDepth 20000 in
theorem gX3_count_X3_isWithin : GoodIn wsX3_count (va_wsS RX3 37 yX3_isWithin wsX3_isWithin) := goodIn_app (goodIn_of _ (by decide +kernel)) ggX3_count_X3_isWithin
set_option maxRecDepth 20000 in
theorem ggX3_count_X3_needArgument : GoodIn wsX3_count wsX3_needArgument := goodIn_ca (goodIn_r _ [8, 9, 10] (by decide +kernel) (by decide +kernel)) (goodIn_sub (fun _ h => List.mem_cons_of_mem _ (List.mem_append_right _ h)) (by decide +kernel))
set_option maxRecDepth 20000 in
theorem gX3_count_X3_needArgument : GoodIn wsX3_count (va_wsS RX3 41 yX3_needArgument wsX3_needArgument) := goodIn_app (goodIn_of _ (by decide +kernel)) ggX3_count_X3_needArgument
set_option maxRecDepth 20000 in
theorem ggX3_count_X0_openParts : GoodIn wsX3_count wsX0_openParts := goodIn_r _ [14, 15, 16, 17, 12, 18, 19, 20, 21, 22, 23, 24, 25, 26, 27, 4, 28, 29, 30, 31, 32, 33, 34, 35, 36, 37, 38, 39, 40, 41, 42, 43, 44, 85, 86, 87, 88, 89, 90, 91] (by decide +kernel) (by decide +kernel)
set_option maxRecDepth 20000 in
theorem gX3_count_X0_openParts_n83 : GoodIn wsX3_count (wsX0_openParts) := ggX3_count_X0_openParts
set_option maxRecDepth 20000 in
theorem ggX3_count_X3_ofForm : GoodIn wsX3_count wsX3_ofForm := goodIn_r _ [48, 1, 49, 50, 12, 51, 52, 19, 53, 54, 55, 29, 30, 31, 32, 33, 27, 4, 28, 34, 35, 56, 57, 58, 59, 60, 61, 62, 41, 42, 43, 44, 25, 20, 63, 64, 65, 66, 67, 68, 69, 70, 71, 72, 73, 74, 75, 76, 77, 78, 79, 80, 81, 82, 83, 84, 85, 86, 87, 88, 89, 90, 91, 92, 93, 94] (by decide +kernel) (by decide +kernel)
set_option maxRecDepth 20000 in
theorem gX3_count_X3_ofForm : GoodIn wsX3_count (wsV RX3 122 RX3 yX3_ofForm wsX3_ofForm) := goodIn_app (goodIn_of _ (by decide +kernel)) ggX3_count_X3_ofForm
theorem dX3_count_0 : decode cX3_count 0 = .ok (.iload_n 1, 1) := by decide +kernel
theorem dX3_count_1 : decode cX3_count 1 = .ok (.iconst 0, 1) := by decide +kernel
theorem dX3_count_2 : decode cX3_count 2 = .ok (.bipush 8, 2) := by decide +kernel
theorem dX3_count_4 : decode cX3_count 4 = .ok (.invokestatic 37, 3) := by decide +kernel
theorem dX3_count_7 : decode cX3_count 7 = .ok (.invokestatic 41, 3) := by decide +kernel
theorem dX3_count_10 : decode cX3_count 10 = .ok (.aload_n 0, 1) := by decide +kernel
theorem dX3_count_11 : decode cX3_count 11 = .ok (.iload_n 1, 1) := by decide +kernel
theorem dX3_count_12 : decode cX3_count 12 = .ok (.aload_n 0, 1) := by decide +kernel
theorem dX3_count_13 : decode cX3_count 13 = .ok (.getfield 10, 3) := by decide +kernel
theorem dX3_count_16 : decode cX3_count 16 = .ok (.invokevirtual 83, 3) := by decide +kernel
theorem dX3_count_19 : decode cX3_count 19 = .ok (.invokevirtual 122, 3) := by decide +kernel
theorem dX3_count_22 : decode cX3_count 22 = .ok (.ireturn, 1) := by decide +kernel
set_option maxRecDepth 20000 in
theorem ggX3_ifAnswered_X3_needBox : GoodIn wsX3_ifAnswered wsX3_needBox := goodIn_ca (goodIn_r _ [6, 7, 8, 1, 9, 10, 11, 12, 13, 104, 105, 106, 107, 108, 109, 110, 111, 112, 113, 114] (by decide +kernel) (by decide +kernel)) (goodIn_sub (fun _ h => List.mem_cons_of_mem _ (List.mem_append_left _ (List.mem_append_right _ h))) (by decide +kernel))
set_option maxRecDepth 20000 in
theorem gX3_ifAnswered_X3_needBox : GoodIn wsX3_ifAnswered (wsV RX3 72 RX3 yX3_needBox wsX3_needBox) := goodIn_app (goodIn_of _ (by decide +kernel)) ggX3_ifAnswered_X3_needBox
set_option maxRecDepth 20000 in
theorem ggX3_ifAnswered_X0_fits : GoodIn wsX3_ifAnswered wsX0_fits := goodIn_r _ [16, 17, 18, 19, 10, 20, 21, 22, 23, 5, 24, 25, 26, 27, 28, 29, 108, 109, 110, 111, 112, 113, 114] (by decide +kernel) (by decide +kernel)
set_option maxRecDepth 20000 in
theorem gX3_ifAnswered_X0_fits_n76 : GoodIn wsX3_ifAnswered (wsX0_fits) := ggX3_ifAnswered_X0_fits
set_option maxRecDepth 20000 in
theorem ggX3_ifAnswered_X3_isWithin : GoodIn wsX3_ifAnswered wsX3_isWithin := goodIn_r _ [29] (by decide +kernel) (by decide +kernel)
set_option maxRecDepth 20000 in
theorem gX3_ifAnswered_X3_isWithin : GoodIn wsX3_ifAnswered (va_wsS RX3 37 yX3_isWithin wsX3_isWithin) := goodIn_app (goodIn_of _ (by decide +kernel)) ggX3_ifAnswered_X3_isWithin
set_option maxRecDepth 20000 in
theorem ggX3_ifAnswered_X3_needArgument : GoodIn wsX3_ifAnswered wsX3_needArgument := goodIn_ca (goodIn_r _ [33, 34, 35] (by decide +kernel) (by decide +kernel)) (goodIn_sub (fun _ h => List.mem_cons_of_mem _ (List.mem_append_right _ h)) (by decide +kernel))
set_option maxRecDepth 20000 in
theorem gX3_ifAnswered_X3_needArgument : GoodIn wsX3_ifAnswered (va_wsS RX3 41 yX3_needArgument wsX3_needArgument) := goodIn_app (goodIn_of _ (by decide +kernel)) ggX3_ifAnswered_X3_needArgument
set_option maxRecDepth 20000 in
theorem ggX3_ifAnswered_X3_ofTrial : GoodIn wsX3_ifAnswered wsX3_ofTrial := goodIn_r _ [39, 40, 1, 41, 10, 42, 43, 13, 21, 44, 22, 45, 46, 23, 5, 24, 47, 48, 49, 50, 51, 52, 53, 54, 55, 56, 57, 58, 59, 60, 61, 62, 63, 64, 65, 66, 67, 68, 69, 70, 71, 72, 73, 74, 75, 76, 77, 78, 79, 80, 81, 82, 83, 84, 85, 86, 87, 88, 89, 90, 91, 92, 93, 94, 95, 96, 97, 98, 99, 100, 101, 102, 103, 104, 105, 106, 107, 108, 109, 110, 111, 112, 113, 114] (by decide +kernel) (by decide +kernel)
set_option maxRecDepth 20000 in
theorem gX3_ifAnswered_X3_ofTrial : GoodIn wsX3_ifAnswered (wsV RX3 126 RX3 yX3_ofTrial wsX3_ofTrial) := goodIn_app (goodIn_of _ (by decide +kernel)) ggX3_ifAnswered_X3_ofTrial
theorem dX3_ifAnswered_0 : decode cX3_ifAnswered 0 = .ok (.aload_n 0, 1) := by decide +kernel
theorem dX3_ifAnswered_1 : decode cX3_ifAnswered 1 = .ok (.iload_n 1, 1) := by decide +kernel
theorem dX3_ifAnswered_2 : decode cX3_ifAnswered 2 = .ok (.invokevirtual 72, 3) := by decide +kernel
theorem dX3_ifAnswered_5 : decode cX3_ifAnswered 5 = .ok (.aload_n 0, 1) := by decide +kernel
theorem dX3_ifAnswered_6 : decode cX3_ifAnswered 6 = .ok (.getfield 10, 3) := by decide +kernel
theorem dX3_ifAnswered_9 : decode cX3_ifAnswered 9 = .ok (.iload_n 1, 1) := by decide +kernel
theorem dX3_ifAnswered_10 : decode cX3_ifAnswered 10 = .ok (.iload_n 2, 1) := by decide +kernel
theorem dX3_ifAnswered_11 : decode cX3_ifAnswered 11 = .ok (.invokevirtual 76, 3) := by decide +kernel
theorem dX3_ifAnswered_14 : decode cX3_ifAnswered 14 = .ok (.ifCond .eq 16, 3) := by decide +kernel
theorem dX3_ifAnswered_17 : decode cX3_ifAnswered 17 = .ok (.iload_n 3, 1) := by decide +kernel
theorem dX3_ifAnswered_18 : decode cX3_ifAnswered 18 = .ok (.iconst 0, 1) := by decide +kernel
theorem dX3_ifAnswered_19 : decode cX3_ifAnswered 19 = .ok (.iconst 2, 1) := by decide +kernel
theorem dX3_ifAnswered_20 : decode cX3_ifAnswered 20 = .ok (.invokestatic 37, 3) := by decide +kernel
theorem dX3_ifAnswered_23 : decode cX3_ifAnswered 23 = .ok (.ifCond .eq 7, 3) := by decide +kernel
theorem dX3_ifAnswered_26 : decode cX3_ifAnswered 26 = .ok (.iconst 1, 1) := by decide +kernel
theorem dX3_ifAnswered_27 : decode cX3_ifAnswered 27 = .ok (.goto 4, 3) := by decide +kernel
theorem dX3_ifAnswered_30 : decode cX3_ifAnswered 30 = .ok (.iconst 0, 1) := by decide +kernel
theorem dX3_ifAnswered_31 : decode cX3_ifAnswered 31 = .ok (.invokestatic 41, 3) := by decide +kernel
theorem dX3_ifAnswered_34 : decode cX3_ifAnswered 34 = .ok (.aload_n 0, 1) := by decide +kernel
theorem dX3_ifAnswered_35 : decode cX3_ifAnswered 35 = .ok (.iload_n 1, 1) := by decide +kernel
theorem dX3_ifAnswered_36 : decode cX3_ifAnswered 36 = .ok (.iload_n 2, 1) := by decide +kernel
theorem dX3_ifAnswered_37 : decode cX3_ifAnswered 37 = .ok (.iload_n 3, 1) := by decide +kernel
theorem dX3_ifAnswered_38 : decode cX3_ifAnswered 38 = .ok (.invokevirtual 126, 3) := by decide +kernel
theorem dX3_ifAnswered_41 : decode cX3_ifAnswered 41 = .ok (.ireturn, 1) := by decide +kernel
set_option maxRecDepth 20000 in
theorem ggX3_shortest_X0_canComeTo : GoodIn wsX3_shortest wsX0_canComeTo := goodIn_r _ [9, 10, 11, 12, 13, 14, 15, 7, 16, 17, 18, 19, 20, 21, 22, 23, 24, 25, 26, 27, 28, 29, 30, 31, 32, 33, 34, 35, 36, 37, 38, 39, 40, 41, 42, 43, 44, 45, 46, 47, 48, 49, 50, 51, 52, 64, 65, 66, 67, 68, 69, 70] (by decide +kernel) (by decide +kernel)
set_option maxRecDepth 20000 in
theorem gX3_shortest_X0_canComeTo_n129 : GoodIn wsX3_shortest (wsX0_canComeTo) := ggX3_shortest_X0_canComeTo
set_option maxRecDepth 20000 in
theorem ggX3_shortest_X0_wanting : GoodIn wsX3_shortest wsX0_wanting := goodIn_r _ [55, 21, 56, 57, 58, 7, 59, 31, 32, 33, 34, 35, 29, 11, 30, 10, 12, 41, 42, 43, 44, 27, 22, 64, 65, 66, 67, 68, 69, 70] (by decide +kernel) (by decide +kernel)
set_option maxRecDepth 20000 in
theorem gX3_shortest_X0_wanting_n86 : GoodIn wsX3_shortest (wsX0_wanting) := ggX3_shortest_X0_wanting
theorem dX3_shortest_0 : decode cX3_shortest 0 = .ok (.bipush 16, 2) := by decide +kernel
theorem dX3_shortest_2 : decode cX3_shortest 2 = .ok (.istore_n 1, 1) := by decide +kernel
theorem dX3_shortest_3 : decode cX3_shortest 3 = .ok (.iconst 1, 1) := by decide +kernel
theorem dX3_shortest_4 : decode cX3_shortest 4 = .ok (.istore_n 2, 1) := by decide +kernel
theorem dX3_shortest_5 : decode cX3_shortest 5 = .ok (.iload_n 2, 1) := by decide +kernel
theorem dX3_shortest_6 : decode cX3_shortest 6 = .ok (.bipush 32, 2) := by decide +kernel
theorem dX3_shortest_8 : decode cX3_shortest 8 = .ok (.if_icmp .ge 33, 3) := by decide +kernel
theorem dX3_shortest_11 : decode cX3_shortest 11 = .ok (.aload_n 0, 1) := by decide +kernel
theorem dX3_shortest_12 : decode cX3_shortest 12 = .ok (.getfield 10, 3) := by decide +kernel
theorem dX3_shortest_15 : decode cX3_shortest 15 = .ok (.iload_n 2, 1) := by decide +kernel
theorem dX3_shortest_16 : decode cX3_shortest 16 = .ok (.invokevirtual 129, 3) := by decide +kernel
theorem dX3_shortest_19 : decode cX3_shortest 19 = .ok (.ifCond .eq 16, 3) := by decide +kernel
theorem dX3_shortest_22 : decode cX3_shortest 22 = .ok (.iload_n 1, 1) := by decide +kernel
theorem dX3_shortest_23 : decode cX3_shortest 23 = .ok (.aload_n 0, 1) := by decide +kernel
theorem dX3_shortest_24 : decode cX3_shortest 24 = .ok (.getfield 10, 3) := by decide +kernel
theorem dX3_shortest_27 : decode cX3_shortest 27 = .ok (.iload_n 2, 1) := by decide +kernel
theorem dX3_shortest_28 : decode cX3_shortest 28 = .ok (.invokevirtual 86, 3) := by decide +kernel
theorem dX3_shortest_31 : decode cX3_shortest 31 = .ok (.invokestatic 132, 3) := by decide +kernel
theorem dX3_shortest_34 : decode cX3_shortest 34 = .ok (.istore_n 1, 1) := by decide +kernel
theorem dX3_shortest_35 : decode cX3_shortest 35 = .ok (.iinc 2 2, 3) := by decide +kernel
theorem dX3_shortest_38 : decode cX3_shortest 38 = .ok (.goto (-33), 3) := by decide +kernel
theorem dX3_shortest_41 : decode cX3_shortest 41 = .ok (.iload_n 1, 1) := by decide +kernel
theorem dX3_shortest_42 : decode cX3_shortest 42 = .ok (.ireturn, 1) := by decide +kernel
set_option maxRecDepth 20000 in
theorem ggX3_mostCarried_X0_size : GoodIn wsX3_mostCarried wsX0_size := goodIn_r _ [5, 6, 28, 29, 30, 31, 32, 33, 34] (by decide +kernel) (by decide +kernel)
set_option maxRecDepth 20000 in
theorem gX3_mostCarried_X0_size_n54 : GoodIn wsX3_mostCarried (wsX0_size) := ggX3_mostCarried_X0_size
set_option maxRecDepth 20000 in
theorem ggX3_mostCarried_X0_totalsOver : GoodIn wsX3_mostCarried wsX0_totalsOver := goodIn_r _ [9, 6, 10, 11, 12, 13, 14, 15, 16, 17, 18, 19, 20, 21, 22, 23, 28, 29, 30, 31, 32, 33, 34] (by decide +kernel) (by decide +kernel)
set_option maxRecDepth 20000 in
theorem gX3_mostCarried_X0_totalsOver_n137 : GoodIn wsX3_mostCarried (wsX0_totalsOver) := ggX3_mostCarried_X0_totalsOver
theorem dX3_mostCarried_0 : decode cX3_mostCarried 0 = .ok (.iconst (-1), 1) := by decide +kernel
theorem dX3_mostCarried_1 : decode cX3_mostCarried 1 = .ok (.istore_n 1, 1) := by decide +kernel
theorem dX3_mostCarried_2 : decode cX3_mostCarried 2 = .ok (.iconst 0, 1) := by decide +kernel
theorem dX3_mostCarried_3 : decode cX3_mostCarried 3 = .ok (.istore_n 2, 1) := by decide +kernel
theorem dX3_mostCarried_4 : decode cX3_mostCarried 4 = .ok (.aload_n 0, 1) := by decide +kernel
theorem dX3_mostCarried_5 : decode cX3_mostCarried 5 = .ok (.getfield 10, 3) := by decide +kernel
theorem dX3_mostCarried_8 : decode cX3_mostCarried 8 = .ok (.invokevirtual 54, 3) := by decide +kernel
theorem dX3_mostCarried_11 : decode cX3_mostCarried 11 = .ok (.istore_n 3, 1) := by decide +kernel
theorem dX3_mostCarried_12 : decode cX3_mostCarried 12 = .ok (.iconst 0, 1) := by decide +kernel
theorem dX3_mostCarried_13 : decode cX3_mostCarried 13 = .ok (.istore 4, 2) := by decide +kernel
theorem dX3_mostCarried_15 : decode cX3_mostCarried 15 = .ok (.iload 4, 2) := by decide +kernel
theorem dX3_mostCarried_17 : decode cX3_mostCarried 17 = .ok (.iload_n 3, 1) := by decide +kernel
theorem dX3_mostCarried_18 : decode cX3_mostCarried 18 = .ok (.if_icmp .ge 32, 3) := by decide +kernel
theorem dX3_mostCarried_21 : decode cX3_mostCarried 21 = .ok (.aload_n 0, 1) := by decide +kernel
theorem dX3_mostCarried_22 : decode cX3_mostCarried 22 = .ok (.getfield 10, 3) := by decide +kernel
theorem dX3_mostCarried_25 : decode cX3_mostCarried 25 = .ok (.iload 4, 2) := by decide +kernel
theorem dX3_mostCarried_27 : decode cX3_mostCarried 27 = .ok (.invokevirtual 137, 3) := by decide +kernel
theorem dX3_mostCarried_30 : decode cX3_mostCarried 30 = .ok (.istore 5, 2) := by decide +kernel
theorem dX3_mostCarried_32 : decode cX3_mostCarried 32 = .ok (.iload 5, 2) := by decide +kernel
theorem dX3_mostCarried_34 : decode cX3_mostCarried 34 = .ok (.iload_n 2, 1) := by decide +kernel
theorem dX3_mostCarried_35 : decode cX3_mostCarried 35 = .ok (.if_icmp .le 9, 3) := by decide +kernel
theorem dX3_mostCarried_38 : decode cX3_mostCarried 38 = .ok (.iload 5, 2) := by decide +kernel
theorem dX3_mostCarried_40 : decode cX3_mostCarried 40 = .ok (.istore_n 2, 1) := by decide +kernel
theorem dX3_mostCarried_41 : decode cX3_mostCarried 41 = .ok (.iload 4, 2) := by decide +kernel
theorem dX3_mostCarried_43 : decode cX3_mostCarried 43 = .ok (.istore_n 1, 1) := by decide +kernel
theorem dX3_mostCarried_44 : decode cX3_mostCarried 44 = .ok (.iinc 4 1, 3) := by decide +kernel
theorem dX3_mostCarried_47 : decode cX3_mostCarried 47 = .ok (.goto (-32), 3) := by decide +kernel
theorem dX3_mostCarried_50 : decode cX3_mostCarried 50 = .ok (.iload_n 1, 1) := by decide +kernel
theorem dX3_mostCarried_51 : decode cX3_mostCarried 51 = .ok (.ireturn, 1) := by decide +kernel
set_option maxRecDepth 20000 in
theorem ggX3_filled_X0_openParts : GoodIn wsX3_filled wsX0_openParts := goodIn_r _ [5, 6, 7, 8, 3, 9, 10, 11, 12, 13, 14, 15, 16, 17, 18, 19, 20, 21, 22, 23, 24, 25, 26, 27, 28, 29, 30, 31, 32, 33, 34, 35, 36, 51, 52, 53, 54, 55, 56, 57] (by decide +kernel) (by decide +kernel)
set_option maxRecDepth 20000 in
theorem gX3_filled_X0_openParts_n83 : GoodIn wsX3_filled (wsX0_openParts) := ggX3_filled_X0_openParts
set_option maxRecDepth 20000 in
theorem ggX3_filled_X0_openToAnswer : GoodIn wsX3_filled wsX0_openToAnswer := goodIn_r _ [39, 10, 16, 21, 22, 23, 3, 24, 25, 18, 19, 20, 26, 27, 51, 52, 53, 54, 55, 56, 57] (by decide +kernel) (by decide +kernel)
set_option maxRecDepth 20000 in
theorem gX3_filled_X0_openToAnswer_n140 : GoodIn wsX3_filled (wsX0_openToAnswer) := ggX3_filled_X0_openToAnswer
set_option maxRecDepth 20000 in
theorem ggX3_filled_X0_wanting : GoodIn wsX3_filled wsX0_wanting := goodIn_r _ [42, 10, 43, 44, 45, 3, 46, 21, 22, 23, 24, 25, 18, 19, 20, 26, 27, 33, 34, 35, 36, 16, 11, 51, 52, 53, 54, 55, 56, 57] (by decide +kernel) (by decide +kernel)
set_option maxRecDepth 20000 in
theorem gX3_filled_X0_wanting_n86 : GoodIn wsX3_filled (wsX0_wanting) := ggX3_filled_X0_wanting
theorem dX3_filled_0 : decode cX3_filled 0 = .ok (.aload_n 0, 1) := by decide +kernel
theorem dX3_filled_1 : decode cX3_filled 1 = .ok (.getfield 10, 3) := by decide +kernel
theorem dX3_filled_4 : decode cX3_filled 4 = .ok (.invokevirtual 83, 3) := by decide +kernel
theorem dX3_filled_7 : decode cX3_filled 7 = .ok (.istore_n 1, 1) := by decide +kernel
theorem dX3_filled_8 : decode cX3_filled 8 = .ok (.aload_n 0, 1) := by decide +kernel
theorem dX3_filled_9 : decode cX3_filled 9 = .ok (.getfield 10, 3) := by decide +kernel
theorem dX3_filled_12 : decode cX3_filled 12 = .ok (.iload_n 1, 1) := by decide +kernel
theorem dX3_filled_13 : decode cX3_filled 13 = .ok (.invokevirtual 140, 3) := by decide +kernel
theorem dX3_filled_16 : decode cX3_filled 16 = .ok (.istore_n 2, 1) := by decide +kernel
theorem dX3_filled_17 : decode cX3_filled 17 = .ok (.iload_n 2, 1) := by decide +kernel
theorem dX3_filled_18 : decode cX3_filled 18 = .ok (.ifCond .gt 5, 3) := by decide +kernel
theorem dX3_filled_21 : decode cX3_filled 21 = .ok (.dconst 1, 1) := by decide +kernel
theorem dX3_filled_22 : decode cX3_filled 22 = .ok (.dreturn, 1) := by decide +kernel
theorem dX3_filled_23 : decode cX3_filled 23 = .ok (.iload_n 2, 1) := by decide +kernel
theorem dX3_filled_24 : decode cX3_filled 24 = .ok (.aload_n 0, 1) := by decide +kernel
theorem dX3_filled_25 : decode cX3_filled 25 = .ok (.getfield 10, 3) := by decide +kernel
theorem dX3_filled_28 : decode cX3_filled 28 = .ok (.iload_n 1, 1) := by decide +kernel
theorem dX3_filled_29 : decode cX3_filled 29 = .ok (.invokevirtual 86, 3) := by decide +kernel
theorem dX3_filled_32 : decode cX3_filled 32 = .ok (.isub, 1) := by decide +kernel
theorem dX3_filled_33 : decode cX3_filled 33 = .ok (.i2d, 1) := by decide +kernel
theorem dX3_filled_34 : decode cX3_filled 34 = .ok (.iload_n 2, 1) := by decide +kernel
theorem dX3_filled_35 : decode cX3_filled 35 = .ok (.i2d, 1) := by decide +kernel
theorem dX3_filled_36 : decode cX3_filled 36 = .ok (.ddiv, 1) := by decide +kernel
theorem dX3_filled_37 : decode cX3_filled 37 = .ok (.dreturn, 1) := by decide +kernel
set_option maxRecDepth 20000 in
theorem ggX3_digest_X0_openParts : GoodIn wsX3_digest wsX0_openParts := goodIn_r _ [7, 8, 9, 10, 5, 11, 12, 13, 14, 15, 16, 17, 18, 19, 20, 21, 22, 23, 24, 25, 26, 27, 28, 29, 30, 31, 32, 33, 34, 35, 36, 37, 38, 210, 211, 212, 213, 214, 215, 216] (by decide +kernel) (by decide +kernel)
set_option maxRecDepth 20000 in
theorem gX3_digest_X0_openParts_n83 : GoodIn wsX3_digest (wsX0_openParts) := ggX3_digest_X0_openParts
set_option maxRecDepth 20000 in
theorem ggX3_digest_X3_hashCounts : GoodIn wsX3_digest wsX3_hashCounts := goodIn_r _ [42, 43, 44, 45, 21, 46, 1, 47, 48, 5, 49, 50, 12, 51, 52, 53, 23, 24, 25, 26, 27, 20, 22, 28, 29, 54, 55, 56, 57, 58, 59, 60, 35, 36, 37, 38, 18, 13, 61, 62, 63, 64, 65, 66, 67, 68, 69, 70, 71, 72, 73, 74, 75, 76, 77, 78, 79, 80, 81, 82, 206, 207, 208, 209, 210, 211, 212, 213, 214, 215, 216, 217, 218, 219] (by decide +kernel) (by decide +kernel)
set_option maxRecDepth 20000 in
theorem gX3_digest_X3_hashCounts : GoodIn wsX3_digest (wsV RX3 145 RX3 yX3_hashCounts wsX3_hashCounts) := goodIn_app (goodIn_of _ (by decide +kernel)) ggX3_digest_X3_hashCounts
set_option maxRecDepth 20000 in
theorem ggX3_digest_X3_hashBoxes : GoodIn wsX3_digest wsX3_hashBoxes := goodIn_r _ [86, 1, 48, 5, 49, 50, 12, 87, 88, 89, 21, 90, 91, 92, 93, 18, 20, 22, 94, 95, 96, 27, 97, 98, 99, 19, 100, 101, 102, 34, 103, 104, 105, 13, 106, 107, 108, 109, 110, 111, 112, 113, 114, 115, 116, 117, 118, 28, 29, 23, 24, 25, 26, 119, 120, 121, 122, 35, 36, 37, 38, 123, 124, 58, 59, 60, 79, 80, 81, 82, 125, 126, 127, 128, 129, 130, 131, 132, 133, 134, 135, 4, 6, 7, 8, 9, 10, 11, 14, 15, 16, 17, 30, 31, 32, 33, 54, 55, 56, 57, 136, 137, 138, 206, 207, 208, 209, 210, 211, 212, 213, 214, 215, 216] (by decide +kernel) (by decide +kernel)
set_option maxRecDepth 20000 in
theorem gX3_digest_X3_hashBoxes : GoodIn wsX3_digest (wsV RX3 149 RX3 yX3_hashBoxes wsX3_hashBoxes) := goodIn_app (goodIn_of _ (by decide +kernel)) ggX3_digest_X3_hashBoxes
set_option maxRecDepth 20000 in
theorem ggX3_digest_X3_hashParts : GoodIn wsX3_digest wsX3_hashParts := goodIn_r _ [142, 143, 144, 145, 21, 146, 1, 147, 28, 29, 148, 5, 149, 150, 12, 27, 20, 22, 151, 152, 153, 57, 58, 59, 60, 23, 24, 25, 26, 35, 36, 37, 38, 18, 13, 154, 155, 156, 14, 15, 16, 17, 19, 31, 32, 33, 34, 79, 80, 81, 82, 206, 207, 208, 209, 210, 211, 212, 213, 214, 215, 216] (by decide +kernel) (by decide +kernel)
set_option maxRecDepth 20000 in
theorem gX3_digest_X3_hashParts : GoodIn wsX3_digest (wsV RX3 152 RX3 yX3_hashParts wsX3_hashParts) := goodIn_app (goodIn_of _ (by decide +kernel)) ggX3_digest_X3_hashParts
set_option maxRecDepth 20000 in
theorem ggX3_digest_X3_shortest : GoodIn wsX3_digest wsX3_shortest := goodIn_r _ [160, 1, 161, 116, 117, 118, 162, 5, 163, 164, 28, 21, 29, 165, 166, 167, 168, 8, 9, 10, 11, 12, 13, 14, 15, 16, 17, 18, 19, 20, 22, 23, 24, 25, 26, 27, 169, 170, 171, 172, 34, 35, 36, 37, 38, 30, 31, 32, 33, 173, 174, 175, 176, 54, 55, 56, 57, 58, 59, 60, 206, 207, 208, 209, 210, 211, 212, 213, 214, 215, 216] (by decide +kernel) (by decide +kernel)
set_option maxRecDepth 20000 in
theorem gX3_digest_X3_shortest : GoodIn wsX3_digest (wsV RX3 155 RX3 yX3_shortest wsX3_shortest) := goodIn_app (goodIn_of _ (by decide +kernel)) ggX3_digest_X3_shortest
set_option maxRecDepth 20000 in
theorem ggX3_digest_X3_mix : GoodIn wsX3_digest wsX3_mix := goodIn_r _ [81, 82] (by decide +kernel) (by decide +kernel)
set_option maxRecDepth 20000 in
theorem gX3_digest_X3_mix : GoodIn wsX3_digest (va_wsS RX3 158 yX3_mix wsX3_mix) := goodIn_app (goodIn_of _ (by decide +kernel)) ggX3_digest_X3_mix
set_option maxRecDepth 20000 in
theorem ggX3_digest_X3_mostCarried : GoodIn wsX3_digest wsX3_mostCarried := goodIn_r _ [180, 1, 48, 5, 49, 50, 12, 181, 182, 183, 19, 18, 20, 21, 22, 28, 29, 184, 65, 66, 67, 68, 69, 70, 206, 207, 208, 209, 210, 211, 212, 213, 214, 215, 216] (by decide +kernel) (by decide +kernel)
set_option maxRecDepth 20000 in
theorem gX3_digest_X3_mostCarried : GoodIn wsX3_digest (wsV RX3 162 RX3 yX3_mostCarried wsX3_mostCarried) := goodIn_app (goodIn_of _ (by decide +kernel)) ggX3_digest_X3_mostCarried
set_option maxRecDepth 20000 in
theorem ggX3_digest_X3_filled : GoodIn wsX3_digest wsX3_filled := goodIn_r _ [188, 1, 4, 5, 6, 7, 8, 9, 10, 11, 12, 13, 14, 15, 16, 17, 18, 19, 20, 21, 22, 23, 24, 25, 26, 27, 28, 29, 30, 31, 32, 33, 34, 35, 36, 37, 38, 189, 190, 191, 54, 55, 56, 57, 58, 59, 60, 206, 207, 208, 209, 210, 211, 212, 213, 214, 215, 216] (by decide +kernel) (by decide +kernel)
set_option maxRecDepth 20000 in
theorem gX3_digest_X3_filled : GoodIn wsX3_digest (wsV RX3 165 RX3 yX3_filled wsX3_filled) := goodIn_app (goodIn_of _ (by decide +kernel)) ggX3_digest_X3_filled
set_option maxRecDepth 20000 in
theorem ggX3_digest_X3_bitsOfShare : GoodIn wsX3_digest wsX3_bitsOfShare := goodIn_r _ [194, 195, 196] (by decide +kernel) (by decide +kernel)
set_option maxRecDepth 20000 in
theorem gX3_digest_X3_bitsOfShare : GoodIn wsX3_digest (va_wsS RX3 169 yX3_bitsOfShare wsX3_bitsOfShare) := goodIn_app (goodIn_of _ (by decide +kernel)) ggX3_digest_X3_bitsOfShare
set_option maxRecDepth 20000 in
theorem ggX3_digest_X2_length : GoodIn wsX3_digest wsX2_length := goodIn_r _ [200, 201, 220, 221] (by decide +kernel) (by decide +kernel)
set_option maxRecDepth 20000 in
theorem gX3_digest_X2_length_n92 : GoodIn wsX3_digest (wsX2_length) := ggX3_digest_X2_length
set_option maxRecDepth 20000 in
theorem ggX3_digest_X2_codeAt : GoodIn wsX3_digest wsX2_codeAt := goodIn_r _ [204, 201, 205, 20, 21, 22, 220, 221] (by decide +kernel) (by decide +kernel)
set_option maxRecDepth 20000 in
theorem gX3_digest_X2_codeAt_n173 : GoodIn wsX3_digest (wsX2_codeAt) := ggX3_digest_X2_codeAt
theorem dX3_digest_0 : decode cX3_digest 0 = .ok (.aload_n 0, 1) := by decide +kernel
theorem dX3_digest_1 : decode cX3_digest 1 = .ok (.getfield 10, 3) := by decide +kernel
theorem dX3_digest_4 : decode cX3_digest 4 = .ok (.invokevirtual 83, 3) := by decide +kernel
theorem dX3_digest_7 : decode cX3_digest 7 = .ok (.istore_n 1, 1) := by decide +kernel
theorem dX3_digest_8 : decode cX3_digest 8 = .ok (.aload_n 0, 1) := by decide +kernel
theorem dX3_digest_9 : decode cX3_digest 9 = .ok (.aload_n 0, 1) := by decide +kernel
theorem dX3_digest_10 : decode cX3_digest 10 = .ok (.aload_n 0, 1) := by decide +kernel
theorem dX3_digest_11 : decode cX3_digest 11 = .ok (.ldc2_w 143, 3) := by decide +kernel
theorem dX3_digest_14 : decode cX3_digest 14 = .ok (.iload_n 1, 1) := by decide +kernel
theorem dX3_digest_15 : decode cX3_digest 15 = .ok (.invokevirtual 145, 3) := by decide +kernel
theorem dX3_digest_18 : decode cX3_digest 18 = .ok (.iload_n 1, 1) := by decide +kernel
theorem dX3_digest_19 : decode cX3_digest 19 = .ok (.invokevirtual 149, 3) := by decide +kernel
theorem dX3_digest_22 : decode cX3_digest 22 = .ok (.iload_n 1, 1) := by decide +kernel
theorem dX3_digest_23 : decode cX3_digest 23 = .ok (.invokevirtual 152, 3) := by decide +kernel
theorem dX3_digest_26 : decode cX3_digest 26 = .ok (.lstore_n 2, 1) := by decide +kernel
theorem dX3_digest_27 : decode cX3_digest 27 = .ok (.lload_n 2, 1) := by decide +kernel
theorem dX3_digest_28 : decode cX3_digest 28 = .ok (.aload_n 0, 1) := by decide +kernel
theorem dX3_digest_29 : decode cX3_digest 29 = .ok (.invokevirtual 155, 3) := by decide +kernel
theorem dX3_digest_32 : decode cX3_digest 32 = .ok (.i2l, 1) := by decide +kernel
theorem dX3_digest_33 : decode cX3_digest 33 = .ok (.invokestatic 158, 3) := by decide +kernel
theorem dX3_digest_36 : decode cX3_digest 36 = .ok (.lstore_n 2, 1) := by decide +kernel
theorem dX3_digest_37 : decode cX3_digest 37 = .ok (.lload_n 2, 1) := by decide +kernel
theorem dX3_digest_38 : decode cX3_digest 38 = .ok (.aload_n 0, 1) := by decide +kernel
theorem dX3_digest_39 : decode cX3_digest 39 = .ok (.invokevirtual 162, 3) := by decide +kernel
theorem dX3_digest_42 : decode cX3_digest 42 = .ok (.i2l, 1) := by decide +kernel
theorem dX3_digest_43 : decode cX3_digest 43 = .ok (.invokestatic 158, 3) := by decide +kernel
theorem dX3_digest_46 : decode cX3_digest 46 = .ok (.lstore_n 2, 1) := by decide +kernel
theorem dX3_digest_47 : decode cX3_digest 47 = .ok (.lload_n 2, 1) := by decide +kernel
theorem dX3_digest_48 : decode cX3_digest 48 = .ok (.aload_n 0, 1) := by decide +kernel
theorem dX3_digest_49 : decode cX3_digest 49 = .ok (.invokevirtual 165, 3) := by decide +kernel
theorem dX3_digest_52 : decode cX3_digest 52 = .ok (.invokestatic 169, 3) := by decide +kernel
theorem dX3_digest_55 : decode cX3_digest 55 = .ok (.invokestatic 158, 3) := by decide +kernel
theorem dX3_digest_58 : decode cX3_digest 58 = .ok (.lstore_n 2, 1) := by decide +kernel
theorem dX3_digest_59 : decode cX3_digest 59 = .ok (.aload_n 0, 1) := by decide +kernel
theorem dX3_digest_60 : decode cX3_digest 60 = .ok (.getfield 29, 3) := by decide +kernel
theorem dX3_digest_63 : decode cX3_digest 63 = .ok (.invokevirtual 92, 3) := by decide +kernel
theorem dX3_digest_66 : decode cX3_digest 66 = .ok (.istore 4, 2) := by decide +kernel
theorem dX3_digest_68 : decode cX3_digest 68 = .ok (.lload_n 2, 1) := by decide +kernel
theorem dX3_digest_69 : decode cX3_digest 69 = .ok (.iload 4, 2) := by decide +kernel
theorem dX3_digest_71 : decode cX3_digest 71 = .ok (.i2l, 1) := by decide +kernel
theorem dX3_digest_72 : decode cX3_digest 72 = .ok (.invokestatic 158, 3) := by decide +kernel
theorem dX3_digest_75 : decode cX3_digest 75 = .ok (.lstore_n 2, 1) := by decide +kernel
theorem dX3_digest_76 : decode cX3_digest 76 = .ok (.iconst 0, 1) := by decide +kernel
theorem dX3_digest_77 : decode cX3_digest 77 = .ok (.istore 5, 2) := by decide +kernel
theorem dX3_digest_79 : decode cX3_digest 79 = .ok (.iload 5, 2) := by decide +kernel
theorem dX3_digest_81 : decode cX3_digest 81 = .ok (.iload 4, 2) := by decide +kernel
theorem dX3_digest_83 : decode cX3_digest 83 = .ok (.if_icmp .ge 24, 3) := by decide +kernel
theorem dX3_digest_86 : decode cX3_digest 86 = .ok (.lload_n 2, 1) := by decide +kernel
theorem dX3_digest_87 : decode cX3_digest 87 = .ok (.aload_n 0, 1) := by decide +kernel
theorem dX3_digest_88 : decode cX3_digest 88 = .ok (.getfield 29, 3) := by decide +kernel
theorem dX3_digest_91 : decode cX3_digest 91 = .ok (.iload 5, 2) := by decide +kernel
theorem dX3_digest_93 : decode cX3_digest 93 = .ok (.invokevirtual 173, 3) := by decide +kernel
theorem dX3_digest_96 : decode cX3_digest 96 = .ok (.i2l, 1) := by decide +kernel
theorem dX3_digest_97 : decode cX3_digest 97 = .ok (.invokestatic 158, 3) := by decide +kernel
theorem dX3_digest_100 : decode cX3_digest 100 = .ok (.lstore_n 2, 1) := by decide +kernel
theorem dX3_digest_101 : decode cX3_digest 101 = .ok (.iinc 5 1, 3) := by decide +kernel
theorem dX3_digest_104 : decode cX3_digest 104 = .ok (.goto (-25), 3) := by decide +kernel
theorem dX3_digest_107 : decode cX3_digest 107 = .ok (.lload_n 2, 1) := by decide +kernel
theorem dX3_digest_108 : decode cX3_digest 108 = .ok (.lreturn, 1) := by decide +kernel
theorem dX3_isWithin_0 : decode cX3_isWithin 0 = .ok (.iload_n 0, 1) := by decide +kernel
theorem dX3_isWithin_1 : decode cX3_isWithin 1 = .ok (.iload_n 1, 1) := by decide +kernel
theorem dX3_isWithin_2 : decode cX3_isWithin 2 = .ok (.if_icmp .lt 12, 3) := by decide +kernel
theorem dX3_isWithin_5 : decode cX3_isWithin 5 = .ok (.iload_n 0, 1) := by decide +kernel
theorem dX3_isWithin_6 : decode cX3_isWithin 6 = .ok (.iload_n 2, 1) := by decide +kernel
theorem dX3_isWithin_7 : decode cX3_isWithin 7 = .ok (.if_icmp .gt 7, 3) := by decide +kernel
theorem dX3_isWithin_10 : decode cX3_isWithin 10 = .ok (.iconst 1, 1) := by decide +kernel
theorem dX3_isWithin_11 : decode cX3_isWithin 11 = .ok (.goto 4, 3) := by decide +kernel
theorem dX3_isWithin_14 : decode cX3_isWithin 14 = .ok (.iconst 0, 1) := by decide +kernel
theorem dX3_isWithin_15 : decode cX3_isWithin 15 = .ok (.ireturn, 1) := by decide +kernel
set_option maxRecDepth 20000 in
theorem ggX3_needPart_X3_isWithin : GoodIn wsX3_needPart wsX3_isWithin := goodIn_r _ [6] (by decide +kernel) (by decide +kernel)
set_option maxRecDepth 20000 in
theorem gX3_needPart_X3_isWithin : GoodIn wsX3_needPart (va_wsS RX3 37 yX3_isWithin wsX3_isWithin) := goodIn_app (goodIn_of _ (by decide +kernel)) ggX3_needPart_X3_isWithin
theorem dX3_needPart_0 : decode cX3_needPart 0 = .ok (.iload_n 0, 1) := by decide +kernel
theorem dX3_needPart_1 : decode cX3_needPart 1 = .ok (.iconst 0, 1) := by decide +kernel
theorem dX3_needPart_2 : decode cX3_needPart 2 = .ok (.iload_n 1, 1) := by decide +kernel
theorem dX3_needPart_3 : decode cX3_needPart 3 = .ok (.invokestatic 37, 3) := by decide +kernel
theorem dX3_needPart_6 : decode cX3_needPart 6 = .ok (.ifCond .ne 13, 3) := by decide +kernel
theorem dX3_needPart_9 : decode cX3_needPart 9 = .ok (.new 176, 3) := by decide +kernel
theorem dX3_needPart_12 : decode cX3_needPart 12 = .ok (.dup, 1) := by decide +kernel
theorem dX3_needPart_13 : decode cX3_needPart 13 = .ok (.ldc 178, 2) := by decide +kernel
theorem dX3_needPart_15 : decode cX3_needPart 15 = .ok (.invokespecial 180, 3) := by decide +kernel
theorem dX3_needPart_18 : decode cX3_needPart 18 = .ok (.athrow, 1) := by decide +kernel
theorem dX3_needPart_19 : decode cX3_needPart 19 = .ok (.return_, 1) := by decide +kernel
set_option maxRecDepth 20000 in
theorem ggX3_needBox_X0_has : GoodIn wsX3_needBox wsX0_has := goodIn_r _ [7, 8, 13, 14, 15, 16, 17, 18, 19] (by decide +kernel) (by decide +kernel)
set_option maxRecDepth 20000 in
theorem gX3_needBox_X0_has_n183 : GoodIn wsX3_needBox (wsX0_has) := ggX3_needBox_X0_has
theorem dX3_needBox_0 : decode cX3_needBox 0 = .ok (.aload_n 0, 1) := by decide +kernel
theorem dX3_needBox_1 : decode cX3_needBox 1 = .ok (.getfield 10, 3) := by decide +kernel
theorem dX3_needBox_4 : decode cX3_needBox 4 = .ok (.iload_n 1, 1) := by decide +kernel
theorem dX3_needBox_5 : decode cX3_needBox 5 = .ok (.invokevirtual 183, 3) := by decide +kernel
theorem dX3_needBox_8 : decode cX3_needBox 8 = .ok (.ifCond .ne 13, 3) := by decide +kernel
theorem dX3_needBox_11 : decode cX3_needBox 11 = .ok (.new 176, 3) := by decide +kernel
theorem dX3_needBox_14 : decode cX3_needBox 14 = .ok (.dup, 1) := by decide +kernel
theorem dX3_needBox_15 : decode cX3_needBox 15 = .ok (.ldc 186, 2) := by decide +kernel
theorem dX3_needBox_17 : decode cX3_needBox 17 = .ok (.invokespecial 180, 3) := by decide +kernel
theorem dX3_needBox_20 : decode cX3_needBox 20 = .ok (.athrow, 1) := by decide +kernel
theorem dX3_needBox_21 : decode cX3_needBox 21 = .ok (.return_, 1) := by decide +kernel
theorem dX3_needArgument_0 : decode cX3_needArgument 0 = .ok (.iload_n 0, 1) := by decide +kernel
theorem dX3_needArgument_1 : decode cX3_needArgument 1 = .ok (.ifCond .ne 13, 3) := by decide +kernel
theorem dX3_needArgument_4 : decode cX3_needArgument 4 = .ok (.new 188, 3) := by decide +kernel
theorem dX3_needArgument_7 : decode cX3_needArgument 7 = .ok (.dup, 1) := by decide +kernel
theorem dX3_needArgument_8 : decode cX3_needArgument 8 = .ok (.ldc 190, 2) := by decide +kernel
theorem dX3_needArgument_10 : decode cX3_needArgument 10 = .ok (.invokespecial 192, 3) := by decide +kernel
theorem dX3_needArgument_13 : decode cX3_needArgument 13 = .ok (.athrow, 1) := by decide +kernel
theorem dX3_needArgument_14 : decode cX3_needArgument 14 = .ok (.return_, 1) := by decide +kernel
theorem dX3_needState_0 : decode cX3_needState 0 = .ok (.iload_n 0, 1) := by decide +kernel
theorem dX3_needState_1 : decode cX3_needState 1 = .ok (.ifCond .ne 13, 3) := by decide +kernel
theorem dX3_needState_4 : decode cX3_needState 4 = .ok (.new 193, 3) := by decide +kernel
theorem dX3_needState_7 : decode cX3_needState 7 = .ok (.dup, 1) := by decide +kernel
theorem dX3_needState_8 : decode cX3_needState 8 = .ok (.ldc 195, 2) := by decide +kernel
theorem dX3_needState_10 : decode cX3_needState 10 = .ok (.invokespecial 197, 3) := by decide +kernel
theorem dX3_needState_13 : decode cX3_needState 13 = .ok (.athrow, 1) := by decide +kernel
theorem dX3_needState_14 : decode cX3_needState 14 = .ok (.return_, 1) := by decide +kernel
theorem dX3_at_0 : decode cX3_at 0 = .ok (.iload_n 1, 1) := by decide +kernel
theorem dX3_at_1 : decode cX3_at 1 = .ok (.ifCond .lt 15, 3) := by decide +kernel
theorem dX3_at_4 : decode cX3_at 4 = .ok (.iload_n 1, 1) := by decide +kernel
theorem dX3_at_5 : decode cX3_at 5 = .ok (.aload_n 0, 1) := by decide +kernel
theorem dX3_at_6 : decode cX3_at 6 = .ok (.arraylength, 1) := by decide +kernel
theorem dX3_at_7 : decode cX3_at 7 = .ok (.if_icmp .ge 9, 3) := by decide +kernel
theorem dX3_at_10 : decode cX3_at 10 = .ok (.aload_n 0, 1) := by decide +kernel
theorem dX3_at_11 : decode cX3_at 11 = .ok (.iload_n 1, 1) := by decide +kernel
theorem dX3_at_12 : decode cX3_at 12 = .ok (.iaload, 1) := by decide +kernel
theorem dX3_at_13 : decode cX3_at 13 = .ok (.goto 4, 3) := by decide +kernel
theorem dX3_at_16 : decode cX3_at 16 = .ok (.iconst (-1), 1) := by decide +kernel
theorem dX3_at_17 : decode cX3_at 17 = .ok (.ireturn, 1) := by decide +kernel
theorem dX3_put_0 : decode cX3_put 0 = .ok (.iload_n 1, 1) := by decide +kernel
theorem dX3_put_1 : decode cX3_put 1 = .ok (.ifCond .lt 13, 3) := by decide +kernel
theorem dX3_put_4 : decode cX3_put 4 = .ok (.iload_n 1, 1) := by decide +kernel
theorem dX3_put_5 : decode cX3_put 5 = .ok (.aload_n 0, 1) := by decide +kernel
theorem dX3_put_6 : decode cX3_put 6 = .ok (.arraylength, 1) := by decide +kernel
theorem dX3_put_7 : decode cX3_put 7 = .ok (.if_icmp .ge 7, 3) := by decide +kernel
theorem dX3_put_10 : decode cX3_put 10 = .ok (.aload_n 0, 1) := by decide +kernel
theorem dX3_put_11 : decode cX3_put 11 = .ok (.iload_n 1, 1) := by decide +kernel
theorem dX3_put_12 : decode cX3_put 12 = .ok (.iload_n 2, 1) := by decide +kernel
theorem dX3_put_13 : decode cX3_put 13 = .ok (.iastore, 1) := by decide +kernel
theorem dX3_put_14 : decode cX3_put 14 = .ok (.return_, 1) := by decide +kernel
set_option maxRecDepth 20000 in
theorem ggX3_addNew_X0_size : GoodIn wsX3_addNew wsX0_size := goodIn_r _ [6, 7, 48, 49, 50, 51, 52, 53, 54] (by decide +kernel) (by decide +kernel)
set_option maxRecDepth 20000 in
theorem gX3_addNew_X0_size_n54 : GoodIn wsX3_addNew (wsX0_size) := ggX3_addNew_X0_size
set_option maxRecDepth 20000 in
theorem ggX3_addNew_X3_needState : GoodIn wsX3_addNew wsX3_needState := goodIn_ca (goodIn_r _ [11, 12, 13] (by decide +kernel) (by decide +kernel)) (goodIn_sub (fun _ h => List.mem_cons_of_mem _ (List.mem_append_right _ h)) (by decide +kernel))
set_option maxRecDepth 20000 in
theorem gX3_addNew_X3_needState : GoodIn wsX3_addNew (va_wsS RX3 58 yX3_needState wsX3_needState) := goodIn_app (goodIn_of _ (by decide +kernel)) ggX3_addNew_X3_needState
set_option maxRecDepth 20000 in
theorem ggX3_addNew_X1_save : GoodIn wsX3_addNew wsX1_save := goodIn_r _ [17, 18, 19, 20, 21, 22, 23, 24, 25, 26, 15, 27, 28, 29, 4, 30, 31, 7, 32, 33, 34, 35, 36, 37, 10, 38, 39, 40, 55, 56, 57, 48, 49, 50, 51, 52, 53, 54] (by decide +kernel) (by decide +kernel)
set_option maxRecDepth 20000 in
theorem gX3_addNew_X1_save_n61 : GoodIn wsX3_addNew (wsX1_save) := ggX3_addNew_X1_save
set_option maxRecDepth 20000 in
theorem ggX3_addNew_X0_add : GoodIn wsX3_addNew wsX0_add := goodIn_r _ [43, 32, 7, 33, 34, 35, 36, 39, 10, 40, 48, 49, 50, 51, 52, 53, 54] (by decide +kernel) (by decide +kernel)
set_option maxRecDepth 20000 in
theorem gX3_addNew_X0_add_n198 : GoodIn wsX3_addNew (wsX0_add) := ggX3_addNew_X0_add
theorem dX3_addNew_0 : decode cX3_addNew 0 = .ok (.aload_n 0, 1) := by decide +kernel
theorem dX3_addNew_1 : decode cX3_addNew 1 = .ok (.getfield 10, 3) := by decide +kernel
theorem dX3_addNew_4 : decode cX3_addNew 4 = .ok (.invokevirtual 54, 3) := by decide +kernel
theorem dX3_addNew_7 : decode cX3_addNew 7 = .ok (.bipush 16, 2) := by decide +kernel
theorem dX3_addNew_9 : decode cX3_addNew 9 = .ok (.if_icmp .ge 7, 3) := by decide +kernel
theorem dX3_addNew_12 : decode cX3_addNew 12 = .ok (.iconst 1, 1) := by decide +kernel
theorem dX3_addNew_13 : decode cX3_addNew 13 = .ok (.goto 4, 3) := by decide +kernel
theorem dX3_addNew_16 : decode cX3_addNew 16 = .ok (.iconst 0, 1) := by decide +kernel
theorem dX3_addNew_17 : decode cX3_addNew 17 = .ok (.invokestatic 58, 3) := by decide +kernel
theorem dX3_addNew_20 : decode cX3_addNew 20 = .ok (.aload_n 0, 1) := by decide +kernel
theorem dX3_addNew_21 : decode cX3_addNew 21 = .ok (.getfield 22, 3) := by decide +kernel
theorem dX3_addNew_24 : decode cX3_addNew 24 = .ok (.aload_n 0, 1) := by decide +kernel
theorem dX3_addNew_25 : decode cX3_addNew 25 = .ok (.getfield 10, 3) := by decide +kernel
theorem dX3_addNew_28 : decode cX3_addNew 28 = .ok (.invokevirtual 61, 3) := by decide +kernel
theorem dX3_addNew_31 : decode cX3_addNew 31 = .ok (.aload_n 0, 1) := by decide +kernel
theorem dX3_addNew_32 : decode cX3_addNew 32 = .ok (.getfield 10, 3) := by decide +kernel
theorem dX3_addNew_35 : decode cX3_addNew 35 = .ok (.iload_n 1, 1) := by decide +kernel
theorem dX3_addNew_36 : decode cX3_addNew 36 = .ok (.iload_n 2, 1) := by decide +kernel
theorem dX3_addNew_37 : decode cX3_addNew 37 = .ok (.iload_n 3, 1) := by decide +kernel
theorem dX3_addNew_38 : decode cX3_addNew 38 = .ok (.iload 4, 2) := by decide +kernel
theorem dX3_addNew_40 : decode cX3_addNew 40 = .ok (.invokevirtual 198, 3) := by decide +kernel
theorem dX3_addNew_43 : decode cX3_addNew 43 = .ok (.aload_n 0, 1) := by decide +kernel
theorem dX3_addNew_44 : decode cX3_addNew 44 = .ok (.getfield 10, 3) := by decide +kernel
theorem dX3_addNew_47 : decode cX3_addNew 47 = .ok (.invokevirtual 54, 3) := by decide +kernel
theorem dX3_addNew_50 : decode cX3_addNew 50 = .ok (.iconst 1, 1) := by decide +kernel
theorem dX3_addNew_51 : decode cX3_addNew 51 = .ok (.isub, 1) := by decide +kernel
theorem dX3_addNew_52 : decode cX3_addNew 52 = .ok (.ireturn, 1) := by decide +kernel
set_option maxRecDepth 20000 in
theorem ggX3_giveAnswersOfText_X2_length : GoodIn wsX3_giveAnswersOfText wsX2_length := goodIn_r _ [6, 7, 44, 45] (by decide +kernel) (by decide +kernel)
set_option maxRecDepth 20000 in
theorem gX3_giveAnswersOfText_X2_length_n92 : GoodIn wsX3_giveAnswersOfText (wsX2_length) := ggX3_giveAnswersOfText_X2_length
set_option maxRecDepth 20000 in
theorem ggX3_giveAnswersOfText_X2_codeAt : GoodIn wsX3_giveAnswersOfText wsX2_codeAt := goodIn_r _ [10, 7, 11, 12, 13, 14, 44, 45] (by decide +kernel) (by decide +kernel)
set_option maxRecDepth 20000 in
theorem gX3_giveAnswersOfText_X2_codeAt_n173 : GoodIn wsX3_giveAnswersOfText (wsX2_codeAt) := ggX3_giveAnswersOfText_X2_codeAt
set_option maxRecDepth 20000 in
theorem ggX3_giveAnswersOfText_X0_has : GoodIn wsX3_giveAnswersOfText wsX0_has := goodIn_r _ [18, 19, 46, 47, 48, 49, 50, 51, 52] (by decide +kernel) (by decide +kernel)
set_option maxRecDepth 20000 in
theorem gX3_giveAnswersOfText_X0_has_n183 : GoodIn wsX3_giveAnswersOfText (wsX0_has) := ggX3_giveAnswersOfText_X0_has
set_option maxRecDepth 20000 in
theorem ggX3_giveAnswersOfText_X0_fits : GoodIn wsX3_giveAnswersOfText wsX0_fits := goodIn_r _ [22, 23, 24, 25, 16, 26, 27, 28, 12, 13, 14, 29, 30, 31, 32, 33, 46, 47, 48, 49, 50, 51, 52] (by decide +kernel) (by decide +kernel)
set_option maxRecDepth 20000 in
theorem gX3_giveAnswersOfText_X0_fits_n76 : GoodIn wsX3_giveAnswersOfText (wsX0_fits) := ggX3_giveAnswersOfText_X0_fits
set_option maxRecDepth 20000 in
theorem ggX3_giveAnswersOfText_X0_give : GoodIn wsX3_giveAnswersOfText wsX0_give := goodIn_r _ [36, 37, 38, 13, 39, 46, 47, 48, 49, 50, 51, 52] (by decide +kernel) (by decide +kernel)
set_option maxRecDepth 20000 in
theorem gX3_giveAnswersOfText_X0_give_n80 : GoodIn wsX3_giveAnswersOfText (wsX0_give) := ggX3_giveAnswersOfText_X0_give
theorem dX3_giveAnswersOfText_0 : decode cX3_giveAnswersOfText 0 = .ok (.iconst 0, 1) := by decide +kernel
theorem dX3_giveAnswersOfText_1 : decode cX3_giveAnswersOfText 1 = .ok (.istore_n 1, 1) := by decide +kernel
theorem dX3_giveAnswersOfText_2 : decode cX3_giveAnswersOfText 2 = .ok (.iconst 0, 1) := by decide +kernel
theorem dX3_giveAnswersOfText_3 : decode cX3_giveAnswersOfText 3 = .ok (.istore_n 2, 1) := by decide +kernel
theorem dX3_giveAnswersOfText_4 : decode cX3_giveAnswersOfText 4 = .ok (.iconst (-1), 1) := by decide +kernel
theorem dX3_giveAnswersOfText_5 : decode cX3_giveAnswersOfText 5 = .ok (.istore_n 3, 1) := by decide +kernel
theorem dX3_giveAnswersOfText_6 : decode cX3_giveAnswersOfText 6 = .ok (.iconst 0, 1) := by decide +kernel
theorem dX3_giveAnswersOfText_7 : decode cX3_giveAnswersOfText 7 = .ok (.istore 4, 2) := by decide +kernel
theorem dX3_giveAnswersOfText_9 : decode cX3_giveAnswersOfText 9 = .ok (.aload_n 0, 1) := by decide +kernel
theorem dX3_giveAnswersOfText_10 : decode cX3_giveAnswersOfText 10 = .ok (.getfield 29, 3) := by decide +kernel
theorem dX3_giveAnswersOfText_13 : decode cX3_giveAnswersOfText 13 = .ok (.invokevirtual 92, 3) := by decide +kernel
theorem dX3_giveAnswersOfText_16 : decode cX3_giveAnswersOfText 16 = .ok (.istore 5, 2) := by decide +kernel
theorem dX3_giveAnswersOfText_18 : decode cX3_giveAnswersOfText 18 = .ok (.iconst 0, 1) := by decide +kernel
theorem dX3_giveAnswersOfText_19 : decode cX3_giveAnswersOfText 19 = .ok (.istore 6, 2) := by decide +kernel
theorem dX3_giveAnswersOfText_21 : decode cX3_giveAnswersOfText 21 = .ok (.iload 6, 2) := by decide +kernel
theorem dX3_giveAnswersOfText_23 : decode cX3_giveAnswersOfText 23 = .ok (.iload 5, 2) := by decide +kernel
theorem dX3_giveAnswersOfText_25 : decode cX3_giveAnswersOfText 25 = .ok (.if_icmp .gt 141, 3) := by decide +kernel
theorem dX3_giveAnswersOfText_28 : decode cX3_giveAnswersOfText 28 = .ok (.aload_n 0, 1) := by decide +kernel
theorem dX3_giveAnswersOfText_29 : decode cX3_giveAnswersOfText 29 = .ok (.getfield 29, 3) := by decide +kernel
theorem dX3_giveAnswersOfText_32 : decode cX3_giveAnswersOfText 32 = .ok (.iload 6, 2) := by decide +kernel
theorem dX3_giveAnswersOfText_34 : decode cX3_giveAnswersOfText 34 = .ok (.invokevirtual 173, 3) := by decide +kernel
theorem dX3_giveAnswersOfText_37 : decode cX3_giveAnswersOfText 37 = .ok (.istore 7, 2) := by decide +kernel
theorem dX3_giveAnswersOfText_39 : decode cX3_giveAnswersOfText 39 = .ok (.iload 7, 2) := by decide +kernel
theorem dX3_giveAnswersOfText_41 : decode cX3_giveAnswersOfText 41 = .ok (.bipush 44, 2) := by decide +kernel
theorem dX3_giveAnswersOfText_43 : decode cX3_giveAnswersOfText 43 = .ok (.if_icmp .eq 9, 3) := by decide +kernel
theorem dX3_giveAnswersOfText_46 : decode cX3_giveAnswersOfText 46 = .ok (.iload 7, 2) := by decide +kernel
theorem dX3_giveAnswersOfText_48 : decode cX3_giveAnswersOfText 48 = .ok (.iconst (-1), 1) := by decide +kernel
theorem dX3_giveAnswersOfText_49 : decode cX3_giveAnswersOfText 49 = .ok (.if_icmp .ne 50, 3) := by decide +kernel
theorem dX3_giveAnswersOfText_52 : decode cX3_giveAnswersOfText 52 = .ok (.aload_n 0, 1) := by decide +kernel
theorem dX3_giveAnswersOfText_53 : decode cX3_giveAnswersOfText 53 = .ok (.getfield 10, 3) := by decide +kernel
theorem dX3_giveAnswersOfText_56 : decode cX3_giveAnswersOfText 56 = .ok (.iload_n 2, 1) := by decide +kernel
theorem dX3_giveAnswersOfText_57 : decode cX3_giveAnswersOfText 57 = .ok (.invokevirtual 183, 3) := by decide +kernel
theorem dX3_giveAnswersOfText_60 : decode cX3_giveAnswersOfText 60 = .ok (.ifCond .eq 15, 3) := by decide +kernel
theorem dX3_giveAnswersOfText_63 : decode cX3_giveAnswersOfText 63 = .ok (.aload_n 0, 1) := by decide +kernel
theorem dX3_giveAnswersOfText_64 : decode cX3_giveAnswersOfText 64 = .ok (.getfield 10, 3) := by decide +kernel
theorem dX3_giveAnswersOfText_67 : decode cX3_giveAnswersOfText 67 = .ok (.iload_n 2, 1) := by decide +kernel
theorem dX3_giveAnswersOfText_68 : decode cX3_giveAnswersOfText 68 = .ok (.iload_n 3, 1) := by decide +kernel
theorem dX3_giveAnswersOfText_69 : decode cX3_giveAnswersOfText 69 = .ok (.invokevirtual 76, 3) := by decide +kernel
theorem dX3_giveAnswersOfText_72 : decode cX3_giveAnswersOfText 72 = .ok (.ifCond .ne 5, 3) := by decide +kernel
theorem dX3_giveAnswersOfText_75 : decode cX3_giveAnswersOfText 75 = .ok (.iload_n 1, 1) := by decide +kernel
theorem dX3_giveAnswersOfText_76 : decode cX3_giveAnswersOfText 76 = .ok (.ireturn, 1) := by decide +kernel
theorem dX3_giveAnswersOfText_77 : decode cX3_giveAnswersOfText 77 = .ok (.aload_n 0, 1) := by decide +kernel
theorem dX3_giveAnswersOfText_78 : decode cX3_giveAnswersOfText 78 = .ok (.getfield 10, 3) := by decide +kernel
theorem dX3_giveAnswersOfText_81 : decode cX3_giveAnswersOfText 81 = .ok (.iload_n 2, 1) := by decide +kernel
theorem dX3_giveAnswersOfText_82 : decode cX3_giveAnswersOfText 82 = .ok (.iload_n 3, 1) := by decide +kernel
theorem dX3_giveAnswersOfText_83 : decode cX3_giveAnswersOfText 83 = .ok (.invokevirtual 80, 3) := by decide +kernel
theorem dX3_giveAnswersOfText_86 : decode cX3_giveAnswersOfText 86 = .ok (.iinc 1 1, 3) := by decide +kernel
theorem dX3_giveAnswersOfText_89 : decode cX3_giveAnswersOfText 89 = .ok (.iconst 0, 1) := by decide +kernel
theorem dX3_giveAnswersOfText_90 : decode cX3_giveAnswersOfText 90 = .ok (.istore_n 2, 1) := by decide +kernel
theorem dX3_giveAnswersOfText_91 : decode cX3_giveAnswersOfText 91 = .ok (.iconst (-1), 1) := by decide +kernel
theorem dX3_giveAnswersOfText_92 : decode cX3_giveAnswersOfText 92 = .ok (.istore_n 3, 1) := by decide +kernel
theorem dX3_giveAnswersOfText_93 : decode cX3_giveAnswersOfText 93 = .ok (.iconst 0, 1) := by decide +kernel
theorem dX3_giveAnswersOfText_94 : decode cX3_giveAnswersOfText 94 = .ok (.istore 4, 2) := by decide +kernel
theorem dX3_giveAnswersOfText_96 : decode cX3_giveAnswersOfText 96 = .ok (.goto 64, 3) := by decide +kernel
theorem dX3_giveAnswersOfText_99 : decode cX3_giveAnswersOfText 99 = .ok (.iload 7, 2) := by decide +kernel
theorem dX3_giveAnswersOfText_101 : decode cX3_giveAnswersOfText 101 = .ok (.bipush 61, 2) := by decide +kernel
theorem dX3_giveAnswersOfText_103 : decode cX3_giveAnswersOfText 103 = .ok (.if_icmp .ne 9, 3) := by decide +kernel
theorem dX3_giveAnswersOfText_106 : decode cX3_giveAnswersOfText 106 = .ok (.iconst 1, 1) := by decide +kernel
theorem dX3_giveAnswersOfText_107 : decode cX3_giveAnswersOfText 107 = .ok (.istore 4, 2) := by decide +kernel
theorem dX3_giveAnswersOfText_109 : decode cX3_giveAnswersOfText 109 = .ok (.goto 51, 3) := by decide +kernel
theorem dX3_giveAnswersOfText_112 : decode cX3_giveAnswersOfText 112 = .ok (.iload 7, 2) := by decide +kernel
theorem dX3_giveAnswersOfText_114 : decode cX3_giveAnswersOfText 114 = .ok (.bipush 45, 2) := by decide +kernel
theorem dX3_giveAnswersOfText_116 : decode cX3_giveAnswersOfText 116 = .ok (.if_icmp .eq 44, 3) := by decide +kernel
theorem dX3_giveAnswersOfText_119 : decode cX3_giveAnswersOfText 119 = .ok (.iload 7, 2) := by decide +kernel
theorem dX3_giveAnswersOfText_121 : decode cX3_giveAnswersOfText 121 = .ok (.bipush 48, 2) := by decide +kernel
theorem dX3_giveAnswersOfText_123 : decode cX3_giveAnswersOfText 123 = .ok (.isub, 1) := by decide +kernel
theorem dX3_giveAnswersOfText_124 : decode cX3_giveAnswersOfText 124 = .ok (.istore 8, 2) := by decide +kernel
theorem dX3_giveAnswersOfText_126 : decode cX3_giveAnswersOfText 126 = .ok (.iload 4, 2) := by decide +kernel
theorem dX3_giveAnswersOfText_128 : decode cX3_giveAnswersOfText 128 = .ok (.ifCond .eq 24, 3) := by decide +kernel
theorem dX3_giveAnswersOfText_131 : decode cX3_giveAnswersOfText 131 = .ok (.iload_n 3, 1) := by decide +kernel
theorem dX3_giveAnswersOfText_132 : decode cX3_giveAnswersOfText 132 = .ok (.iconst (-1), 1) := by decide +kernel
theorem dX3_giveAnswersOfText_133 : decode cX3_giveAnswersOfText 133 = .ok (.if_icmp .ne 8, 3) := by decide +kernel
theorem dX3_giveAnswersOfText_136 : decode cX3_giveAnswersOfText 136 = .ok (.iload 8, 2) := by decide +kernel
theorem dX3_giveAnswersOfText_138 : decode cX3_giveAnswersOfText 138 = .ok (.goto 10, 3) := by decide +kernel
theorem dX3_giveAnswersOfText_141 : decode cX3_giveAnswersOfText 141 = .ok (.iload_n 3, 1) := by decide +kernel
theorem dX3_giveAnswersOfText_142 : decode cX3_giveAnswersOfText 142 = .ok (.bipush 10, 2) := by decide +kernel
theorem dX3_giveAnswersOfText_144 : decode cX3_giveAnswersOfText 144 = .ok (.imul, 1) := by decide +kernel
theorem dX3_giveAnswersOfText_145 : decode cX3_giveAnswersOfText 145 = .ok (.iload 8, 2) := by decide +kernel
theorem dX3_giveAnswersOfText_147 : decode cX3_giveAnswersOfText 147 = .ok (.iadd, 1) := by decide +kernel
theorem dX3_giveAnswersOfText_148 : decode cX3_giveAnswersOfText 148 = .ok (.istore_n 3, 1) := by decide +kernel
theorem dX3_giveAnswersOfText_149 : decode cX3_giveAnswersOfText 149 = .ok (.goto 11, 3) := by decide +kernel
theorem dX3_giveAnswersOfText_152 : decode cX3_giveAnswersOfText 152 = .ok (.iload_n 2, 1) := by decide +kernel
theorem dX3_giveAnswersOfText_153 : decode cX3_giveAnswersOfText 153 = .ok (.bipush 10, 2) := by decide +kernel
theorem dX3_giveAnswersOfText_155 : decode cX3_giveAnswersOfText 155 = .ok (.imul, 1) := by decide +kernel
theorem dX3_giveAnswersOfText_156 : decode cX3_giveAnswersOfText 156 = .ok (.iload 8, 2) := by decide +kernel
theorem dX3_giveAnswersOfText_158 : decode cX3_giveAnswersOfText 158 = .ok (.iadd, 1) := by decide +kernel
theorem dX3_giveAnswersOfText_159 : decode cX3_giveAnswersOfText 159 = .ok (.istore_n 2, 1) := by decide +kernel
theorem dX3_giveAnswersOfText_160 : decode cX3_giveAnswersOfText 160 = .ok (.iinc 6 1, 3) := by decide +kernel
theorem dX3_giveAnswersOfText_163 : decode cX3_giveAnswersOfText 163 = .ok (.goto (-142), 3) := by decide +kernel
theorem dX3_giveAnswersOfText_166 : decode cX3_giveAnswersOfText 166 = .ok (.iload_n 1, 1) := by decide +kernel
theorem dX3_giveAnswersOfText_167 : decode cX3_giveAnswersOfText 167 = .ok (.ireturn, 1) := by decide +kernel
set_option maxRecDepth 20000 in
theorem ggX3_ofBox_X0_kindOf : GoodIn wsX3_ofBox wsX0_kindOf := goodIn_r _ [5, 6, 7, 8, 9, 63, 64, 65, 66, 67, 68, 69] (by decide +kernel) (by decide +kernel)
set_option maxRecDepth 20000 in
theorem gX3_ofBox_X0_kindOf_n65 : GoodIn wsX3_ofBox (wsX0_kindOf) := ggX3_ofBox_X0_kindOf
set_option maxRecDepth 20000 in
theorem ggX3_ofBox_X0_partOf : GoodIn wsX3_ofBox wsX0_partOf := goodIn_r _ [12, 13, 7, 8, 9, 63, 64, 65, 66, 67, 68, 69] (by decide +kernel) (by decide +kernel)
set_option maxRecDepth 20000 in
theorem gX3_ofBox_X0_partOf_n201 : GoodIn wsX3_ofBox (wsX0_partOf) := ggX3_ofBox_X0_partOf
set_option maxRecDepth 20000 in
theorem ggX3_ofBox_X0_settingOf : GoodIn wsX3_ofBox wsX0_settingOf := goodIn_r _ [16, 17, 7, 8, 9, 63, 64, 65, 66, 67, 68, 69] (by decide +kernel) (by decide +kernel)
set_option maxRecDepth 20000 in
theorem gX3_ofBox_X0_settingOf_n204 : GoodIn wsX3_ofBox (wsX0_settingOf) := ggX3_ofBox_X0_settingOf
set_option maxRecDepth 20000 in
theorem ggX3_ofBox_X0_limitOf : GoodIn wsX3_ofBox wsX0_limitOf := goodIn_r _ [20, 21, 7, 8, 9, 63, 64, 65, 66, 67, 68, 69] (by decide +kernel) (by decide +kernel)
set_option maxRecDepth 20000 in
theorem gX3_ofBox_X0_limitOf_n207 : GoodIn wsX3_ofBox (wsX0_limitOf) := ggX3_ofBox_X0_limitOf
set_option maxRecDepth 20000 in
theorem ggX3_ofBox_X0_answerOf : GoodIn wsX3_ofBox wsX0_answerOf := goodIn_r _ [24, 25, 7, 8, 9, 63, 64, 65, 66, 67, 68, 69] (by decide +kernel) (by decide +kernel)
set_option maxRecDepth 20000 in
theorem gX3_ofBox_X0_answerOf_n210 : GoodIn wsX3_ofBox (wsX0_answerOf) := ggX3_ofBox_X0_answerOf
set_option maxRecDepth 20000 in
theorem ggX3_ofBox_X0_valueOf : GoodIn wsX3_ofBox wsX0_valueOf := goodIn_r _ [28, 29, 30, 6, 7, 8, 9, 31, 32, 33, 3, 34, 17, 35, 36, 37, 38, 39, 40, 41, 42, 43, 44, 45, 13, 46, 47, 48, 49, 25, 50, 51, 52, 53, 54, 55, 63, 64, 65, 66, 67, 68, 69] (by decide +kernel) (by decide +kernel)
set_option maxRecDepth 20000 in
theorem gX3_ofBox_X0_valueOf_n213 : GoodIn wsX3_ofBox (wsX0_valueOf) := ggX3_ofBox_X0_valueOf
set_option maxRecDepth 20000 in
theorem ggX3_ofBox_X0_isOpen : GoodIn wsX3_ofBox wsX0_isOpen := goodIn_r _ [45, 13, 7, 8, 9, 40, 41, 63, 64, 65, 66, 67, 68, 69] (by decide +kernel) (by decide +kernel)
set_option maxRecDepth 20000 in
theorem gX3_ofBox_X0_isOpen_n216 : GoodIn wsX3_ofBox (wsX0_isOpen) := ggX3_ofBox_X0_isOpen
set_option maxRecDepth 20000 in
theorem ggX3_ofBox_X0_wants : GoodIn wsX3_ofBox wsX0_wants := goodIn_r _ [58, 42, 43, 44, 3, 45, 13, 7, 8, 9, 40, 41, 50, 51, 52, 53, 6, 25, 63, 64, 65, 66, 67, 68, 69] (by decide +kernel) (by decide +kernel)
set_option maxRecDepth 20000 in
theorem gX3_ofBox_X0_wants_n219 : GoodIn wsX3_ofBox (wsX0_wants) := ggX3_ofBox_X0_wants
theorem dX3_ofBox_0 : decode cX3_ofBox 0 = .ok (.iload_n 2, 1) := by decide +kernel
theorem dX3_ofBox_1 : decode cX3_ofBox 1 = .ok (.tableswitch 116 0 6 #[43, 52, 61, 70, 79, 88, 98], 43) := by decide +kernel
theorem dX3_ofBox_44 : decode cX3_ofBox 44 = .ok (.aload_n 0, 1) := by decide +kernel
theorem dX3_ofBox_45 : decode cX3_ofBox 45 = .ok (.getfield 10, 3) := by decide +kernel
theorem dX3_ofBox_48 : decode cX3_ofBox 48 = .ok (.iload_n 1, 1) := by decide +kernel
theorem dX3_ofBox_49 : decode cX3_ofBox 49 = .ok (.invokevirtual 65, 3) := by decide +kernel
theorem dX3_ofBox_52 : decode cX3_ofBox 52 = .ok (.ireturn, 1) := by decide +kernel
theorem dX3_ofBox_53 : decode cX3_ofBox 53 = .ok (.aload_n 0, 1) := by decide +kernel
theorem dX3_ofBox_54 : decode cX3_ofBox 54 = .ok (.getfield 10, 3) := by decide +kernel
theorem dX3_ofBox_57 : decode cX3_ofBox 57 = .ok (.iload_n 1, 1) := by decide +kernel
theorem dX3_ofBox_58 : decode cX3_ofBox 58 = .ok (.invokevirtual 201, 3) := by decide +kernel
theorem dX3_ofBox_61 : decode cX3_ofBox 61 = .ok (.ireturn, 1) := by decide +kernel
theorem dX3_ofBox_62 : decode cX3_ofBox 62 = .ok (.aload_n 0, 1) := by decide +kernel
theorem dX3_ofBox_63 : decode cX3_ofBox 63 = .ok (.getfield 10, 3) := by decide +kernel
theorem dX3_ofBox_66 : decode cX3_ofBox 66 = .ok (.iload_n 1, 1) := by decide +kernel
theorem dX3_ofBox_67 : decode cX3_ofBox 67 = .ok (.invokevirtual 204, 3) := by decide +kernel
theorem dX3_ofBox_70 : decode cX3_ofBox 70 = .ok (.ireturn, 1) := by decide +kernel
theorem dX3_ofBox_71 : decode cX3_ofBox 71 = .ok (.aload_n 0, 1) := by decide +kernel
theorem dX3_ofBox_72 : decode cX3_ofBox 72 = .ok (.getfield 10, 3) := by decide +kernel
theorem dX3_ofBox_75 : decode cX3_ofBox 75 = .ok (.iload_n 1, 1) := by decide +kernel
theorem dX3_ofBox_76 : decode cX3_ofBox 76 = .ok (.invokevirtual 207, 3) := by decide +kernel
theorem dX3_ofBox_79 : decode cX3_ofBox 79 = .ok (.ireturn, 1) := by decide +kernel
theorem dX3_ofBox_80 : decode cX3_ofBox 80 = .ok (.aload_n 0, 1) := by decide +kernel
theorem dX3_ofBox_81 : decode cX3_ofBox 81 = .ok (.getfield 10, 3) := by decide +kernel
theorem dX3_ofBox_84 : decode cX3_ofBox 84 = .ok (.iload_n 1, 1) := by decide +kernel
theorem dX3_ofBox_85 : decode cX3_ofBox 85 = .ok (.invokevirtual 210, 3) := by decide +kernel
theorem dX3_ofBox_88 : decode cX3_ofBox 88 = .ok (.ireturn, 1) := by decide +kernel
theorem dX3_ofBox_89 : decode cX3_ofBox 89 = .ok (.aload_n 0, 1) := by decide +kernel
theorem dX3_ofBox_90 : decode cX3_ofBox 90 = .ok (.getfield 10, 3) := by decide +kernel
theorem dX3_ofBox_93 : decode cX3_ofBox 93 = .ok (.iload_n 1, 1) := by decide +kernel
theorem dX3_ofBox_94 : decode cX3_ofBox 94 = .ok (.iload_n 3, 1) := by decide +kernel
theorem dX3_ofBox_95 : decode cX3_ofBox 95 = .ok (.invokevirtual 213, 3) := by decide +kernel
theorem dX3_ofBox_98 : decode cX3_ofBox 98 = .ok (.ireturn, 1) := by decide +kernel
theorem dX3_ofBox_99 : decode cX3_ofBox 99 = .ok (.aload_n 0, 1) := by decide +kernel
theorem dX3_ofBox_100 : decode cX3_ofBox 100 = .ok (.getfield 10, 3) := by decide +kernel
theorem dX3_ofBox_103 : decode cX3_ofBox 103 = .ok (.iload_n 1, 1) := by decide +kernel
theorem dX3_ofBox_104 : decode cX3_ofBox 104 = .ok (.iload_n 3, 1) := by decide +kernel
theorem dX3_ofBox_105 : decode cX3_ofBox 105 = .ok (.invokevirtual 216, 3) := by decide +kernel
theorem dX3_ofBox_108 : decode cX3_ofBox 108 = .ok (.ifCond .eq 7, 3) := by decide +kernel
theorem dX3_ofBox_111 : decode cX3_ofBox 111 = .ok (.iconst 1, 1) := by decide +kernel
theorem dX3_ofBox_112 : decode cX3_ofBox 112 = .ok (.goto 4, 3) := by decide +kernel
theorem dX3_ofBox_115 : decode cX3_ofBox 115 = .ok (.iconst 0, 1) := by decide +kernel
theorem dX3_ofBox_116 : decode cX3_ofBox 116 = .ok (.ireturn, 1) := by decide +kernel
theorem dX3_ofBox_117 : decode cX3_ofBox 117 = .ok (.aload_n 0, 1) := by decide +kernel
theorem dX3_ofBox_118 : decode cX3_ofBox 118 = .ok (.getfield 10, 3) := by decide +kernel
theorem dX3_ofBox_121 : decode cX3_ofBox 121 = .ok (.iload_n 1, 1) := by decide +kernel
theorem dX3_ofBox_122 : decode cX3_ofBox 122 = .ok (.iload_n 3, 1) := by decide +kernel
theorem dX3_ofBox_123 : decode cX3_ofBox 123 = .ok (.invokevirtual 219, 3) := by decide +kernel
theorem dX3_ofBox_126 : decode cX3_ofBox 126 = .ok (.ifCond .eq 7, 3) := by decide +kernel
theorem dX3_ofBox_129 : decode cX3_ofBox 129 = .ok (.iconst 1, 1) := by decide +kernel
theorem dX3_ofBox_130 : decode cX3_ofBox 130 = .ok (.goto 4, 3) := by decide +kernel
theorem dX3_ofBox_133 : decode cX3_ofBox 133 = .ok (.iconst 0, 1) := by decide +kernel
theorem dX3_ofBox_134 : decode cX3_ofBox 134 = .ok (.ireturn, 1) := by decide +kernel
set_option maxRecDepth 20000 in
theorem ggX3_ofPart_X3_isInMask : GoodIn wsX3_ofPart wsX3_isInMask := goodIn_r _ [5] (by decide +kernel) (by decide +kernel)
set_option maxRecDepth 20000 in
theorem gX3_ofPart_X3_isInMask : GoodIn wsX3_ofPart (va_wsS RX3 222 yX3_isInMask wsX3_isInMask) := goodIn_app (goodIn_of _ (by decide +kernel)) ggX3_ofPart_X3_isInMask
set_option maxRecDepth 20000 in
theorem ggX3_ofPart_X0_boxesIn : GoodIn wsX3_ofPart wsX0_boxesIn := goodIn_r _ [9, 10, 11, 12, 4, 13, 47, 48, 49, 50, 51, 52, 53] (by decide +kernel) (by decide +kernel)
set_option maxRecDepth 20000 in
theorem gX3_ofPart_X0_boxesIn_n225 : GoodIn wsX3_ofPart (wsX0_boxesIn) := ggX3_ofPart_X0_boxesIn
set_option maxRecDepth 20000 in
theorem ggX3_ofPart_X0_wantingIn : GoodIn wsX3_ofPart wsX0_wantingIn := goodIn_r _ [16, 10, 11, 12, 4, 13, 17, 18, 19, 7, 20, 21, 22, 23, 24, 3, 5, 25, 26, 27, 28, 29, 30, 47, 48, 49, 50, 51, 52, 53] (by decide +kernel) (by decide +kernel)
set_option maxRecDepth 20000 in
theorem gX3_ofPart_X0_wantingIn_n228 : GoodIn wsX3_ofPart (wsX0_wantingIn) := ggX3_ofPart_X0_wantingIn
set_option maxRecDepth 20000 in
theorem ggX3_ofPart_X0_boxesFor : GoodIn wsX3_ofPart wsX0_boxesFor := goodIn_r _ [33, 10, 34, 35, 36, 7, 37, 29, 38, 12, 4, 13, 47, 48, 49, 50, 51, 52, 53] (by decide +kernel) (by decide +kernel)
set_option maxRecDepth 20000 in
theorem gX3_ofPart_X0_boxesFor_n231 : GoodIn wsX3_ofPart (wsX0_boxesFor) := ggX3_ofPart_X0_boxesFor
set_option maxRecDepth 20000 in
theorem ggX3_ofPart_X0_isSkipped : GoodIn wsX3_ofPart wsX0_isSkipped := goodIn_r _ [41, 10, 30, 42, 25, 26, 27, 7, 28, 29, 12, 4, 13, 34, 35, 36, 37, 38, 21, 22, 23, 24, 11, 3, 5, 47, 48, 49, 50, 51, 52, 53] (by decide +kernel) (by decide +kernel)
set_option maxRecDepth 20000 in
theorem gX3_ofPart_X0_isSkipped_n234 : GoodIn wsX3_ofPart (wsX0_isSkipped) := ggX3_ofPart_X0_isSkipped
theorem dX3_ofPart_0 : decode cX3_ofPart 0 = .ok (.iload_n 2, 1) := by decide +kernel
theorem dX3_ofPart_1 : decode cX3_ofPart 1 = .ok (.tableswitch 88 0 4 #[35, 49, 58, 68, 78], 35) := by decide +kernel
theorem dX3_ofPart_36 : decode cX3_ofPart 36 = .ok (.iload_n 1, 1) := by decide +kernel
theorem dX3_ofPart_37 : decode cX3_ofPart 37 = .ok (.iload_n 3, 1) := by decide +kernel
theorem dX3_ofPart_38 : decode cX3_ofPart 38 = .ok (.invokestatic 222, 3) := by decide +kernel
theorem dX3_ofPart_41 : decode cX3_ofPart 41 = .ok (.ifCond .eq 7, 3) := by decide +kernel
theorem dX3_ofPart_44 : decode cX3_ofPart 44 = .ok (.iconst 1, 1) := by decide +kernel
theorem dX3_ofPart_45 : decode cX3_ofPart 45 = .ok (.goto 4, 3) := by decide +kernel
theorem dX3_ofPart_48 : decode cX3_ofPart 48 = .ok (.iconst 0, 1) := by decide +kernel
theorem dX3_ofPart_49 : decode cX3_ofPart 49 = .ok (.ireturn, 1) := by decide +kernel
theorem dX3_ofPart_50 : decode cX3_ofPart 50 = .ok (.aload_n 0, 1) := by decide +kernel
theorem dX3_ofPart_51 : decode cX3_ofPart 51 = .ok (.getfield 10, 3) := by decide +kernel
theorem dX3_ofPart_54 : decode cX3_ofPart 54 = .ok (.iload_n 1, 1) := by decide +kernel
theorem dX3_ofPart_55 : decode cX3_ofPart 55 = .ok (.invokevirtual 225, 3) := by decide +kernel
theorem dX3_ofPart_58 : decode cX3_ofPart 58 = .ok (.ireturn, 1) := by decide +kernel
theorem dX3_ofPart_59 : decode cX3_ofPart 59 = .ok (.aload_n 0, 1) := by decide +kernel
theorem dX3_ofPart_60 : decode cX3_ofPart 60 = .ok (.getfield 10, 3) := by decide +kernel
theorem dX3_ofPart_63 : decode cX3_ofPart 63 = .ok (.iload_n 1, 1) := by decide +kernel
theorem dX3_ofPart_64 : decode cX3_ofPart 64 = .ok (.iload_n 3, 1) := by decide +kernel
theorem dX3_ofPart_65 : decode cX3_ofPart 65 = .ok (.invokevirtual 228, 3) := by decide +kernel
theorem dX3_ofPart_68 : decode cX3_ofPart 68 = .ok (.ireturn, 1) := by decide +kernel
theorem dX3_ofPart_69 : decode cX3_ofPart 69 = .ok (.aload_n 0, 1) := by decide +kernel
theorem dX3_ofPart_70 : decode cX3_ofPart 70 = .ok (.getfield 10, 3) := by decide +kernel
theorem dX3_ofPart_73 : decode cX3_ofPart 73 = .ok (.iconst 1, 1) := by decide +kernel
theorem dX3_ofPart_74 : decode cX3_ofPart 74 = .ok (.iload_n 1, 1) := by decide +kernel
theorem dX3_ofPart_75 : decode cX3_ofPart 75 = .ok (.invokevirtual 231, 3) := by decide +kernel
theorem dX3_ofPart_78 : decode cX3_ofPart 78 = .ok (.ireturn, 1) := by decide +kernel
theorem dX3_ofPart_79 : decode cX3_ofPart 79 = .ok (.aload_n 0, 1) := by decide +kernel
theorem dX3_ofPart_80 : decode cX3_ofPart 80 = .ok (.getfield 10, 3) := by decide +kernel
theorem dX3_ofPart_83 : decode cX3_ofPart 83 = .ok (.iconst 2, 1) := by decide +kernel
theorem dX3_ofPart_84 : decode cX3_ofPart 84 = .ok (.iload_n 1, 1) := by decide +kernel
theorem dX3_ofPart_85 : decode cX3_ofPart 85 = .ok (.invokevirtual 231, 3) := by decide +kernel
theorem dX3_ofPart_88 : decode cX3_ofPart 88 = .ok (.ireturn, 1) := by decide +kernel
theorem dX3_ofPart_89 : decode cX3_ofPart 89 = .ok (.aload_n 0, 1) := by decide +kernel
theorem dX3_ofPart_90 : decode cX3_ofPart 90 = .ok (.getfield 10, 3) := by decide +kernel
theorem dX3_ofPart_93 : decode cX3_ofPart 93 = .ok (.iload_n 1, 1) := by decide +kernel
theorem dX3_ofPart_94 : decode cX3_ofPart 94 = .ok (.iload_n 3, 1) := by decide +kernel
theorem dX3_ofPart_95 : decode cX3_ofPart 95 = .ok (.invokevirtual 234, 3) := by decide +kernel
theorem dX3_ofPart_98 : decode cX3_ofPart 98 = .ok (.ifCond .eq 7, 3) := by decide +kernel
theorem dX3_ofPart_101 : decode cX3_ofPart 101 = .ok (.iconst 1, 1) := by decide +kernel
theorem dX3_ofPart_102 : decode cX3_ofPart 102 = .ok (.goto 4, 3) := by decide +kernel
theorem dX3_ofPart_105 : decode cX3_ofPart 105 = .ok (.iconst 0, 1) := by decide +kernel
theorem dX3_ofPart_106 : decode cX3_ofPart 106 = .ok (.ireturn, 1) := by decide +kernel
set_option maxRecDepth 20000 in
theorem ggX3_ofForm_X0_size : GoodIn wsX3_ofForm wsX0_size := goodIn_r _ [6, 7, 56, 57, 58, 59, 60, 61, 62] (by decide +kernel) (by decide +kernel)
set_option maxRecDepth 20000 in
theorem gX3_ofForm_X0_size_n54 : GoodIn wsX3_ofForm (wsX0_size) := ggX3_ofForm_X0_size
set_option maxRecDepth 20000 in
theorem ggX3_ofForm_X0_openBoxes : GoodIn wsX3_ofForm wsX0_openBoxes := goodIn_r _ [10, 7, 11, 12, 13, 4, 14, 15, 16, 17, 18, 19, 20, 56, 57, 58, 59, 60, 61, 62] (by decide +kernel) (by decide +kernel)
set_option maxRecDepth 20000 in
theorem gX3_ofForm_X0_openBoxes_n237 : GoodIn wsX3_ofForm (wsX0_openBoxes) := ggX3_ofForm_X0_openBoxes
set_option maxRecDepth 20000 in
theorem ggX3_ofForm_X0_wanting : GoodIn wsX3_ofForm wsX0_wanting := goodIn_r _ [23, 7, 24, 25, 26, 4, 27, 11, 12, 13, 14, 15, 16, 17, 18, 19, 20, 28, 29, 30, 31, 32, 33, 56, 57, 58, 59, 60, 61, 62] (by decide +kernel) (by decide +kernel)
set_option maxRecDepth 20000 in
theorem gX3_ofForm_X0_wanting_n86 : GoodIn wsX3_ofForm (wsX0_wanting) := ggX3_ofForm_X0_wanting
set_option maxRecDepth 20000 in
theorem ggX3_ofForm_X0_firstWanting : GoodIn wsX3_ofForm wsX0_firstWanting := goodIn_r _ [36, 7, 24, 25, 26, 4, 27, 11, 12, 13, 14, 15, 16, 17, 18, 19, 20, 28, 29, 30, 31, 32, 33, 56, 57, 58, 59, 60, 61, 62] (by decide +kernel) (by decide +kernel)
set_option maxRecDepth 20000 in
theorem gX3_ofForm_X0_firstWanting_n240 : GoodIn wsX3_ofForm (wsX0_firstWanting) := ggX3_ofForm_X0_firstWanting
set_option maxRecDepth 20000 in
theorem ggX3_ofForm_J6_bitCount_0f7a4 : GoodIn wsX3_ofForm wsJ6_bitCount_0f7a4 := goodIn_r _ [40, 41, 42, 43] (by decide +kernel) (by decide +kernel)
set_option maxRecDepth 20000 in
theorem gX3_ofForm_J6_bitCount_0f7a4 : GoodIn wsX3_ofForm (va_wsS RX3 243 yJ6_bitCount_0f7a4 wsJ6_bitCount_0f7a4) := goodIn_app (goodIn_of _ (by decide +kernel)) ggX3_ofForm_J6_bitCount_0f7a4
set_option maxRecDepth 20000 in
theorem ggX3_ofForm_X0_answered : GoodIn wsX3_ofForm wsX0_answered := goodIn_r _ [46, 7, 33, 16, 17, 18, 56, 57, 58, 59, 60, 61, 62] (by decide +kernel) (by decide +kernel)
set_option maxRecDepth 20000 in
theorem gX3_ofForm_X0_answered_n89 : GoodIn wsX3_ofForm (wsX0_answered) := ggX3_ofForm_X0_answered
set_option maxRecDepth 20000 in
theorem ggX3_ofForm_X1_size : GoodIn wsX3_ofForm wsX1_size := goodIn_r _ [50, 51, 63, 64, 65] (by decide +kernel) (by decide +kernel)
set_option maxRecDepth 20000 in
theorem gX3_ofForm_X1_size_n111 : GoodIn wsX3_ofForm (wsX1_size) := ggX3_ofForm_X1_size
theorem dX3_ofForm_0 : decode cX3_ofForm 0 = .ok (.iload_n 1, 1) := by decide +kernel
theorem dX3_ofForm_1 : decode cX3_ofForm 1 = .ok (.tableswitch 114 0 7 #[47, 55, 64, 73, 82, 99, 104, 106], 47) := by decide +kernel
theorem dX3_ofForm_48 : decode cX3_ofForm 48 = .ok (.aload_n 0, 1) := by decide +kernel
theorem dX3_ofForm_49 : decode cX3_ofForm 49 = .ok (.getfield 10, 3) := by decide +kernel
theorem dX3_ofForm_52 : decode cX3_ofForm 52 = .ok (.invokevirtual 54, 3) := by decide +kernel
theorem dX3_ofForm_55 : decode cX3_ofForm 55 = .ok (.ireturn, 1) := by decide +kernel
theorem dX3_ofForm_56 : decode cX3_ofForm 56 = .ok (.aload_n 0, 1) := by decide +kernel
theorem dX3_ofForm_57 : decode cX3_ofForm 57 = .ok (.getfield 10, 3) := by decide +kernel
theorem dX3_ofForm_60 : decode cX3_ofForm 60 = .ok (.iload_n 2, 1) := by decide +kernel
theorem dX3_ofForm_61 : decode cX3_ofForm 61 = .ok (.invokevirtual 237, 3) := by decide +kernel
theorem dX3_ofForm_64 : decode cX3_ofForm 64 = .ok (.ireturn, 1) := by decide +kernel
theorem dX3_ofForm_65 : decode cX3_ofForm 65 = .ok (.aload_n 0, 1) := by decide +kernel
theorem dX3_ofForm_66 : decode cX3_ofForm 66 = .ok (.getfield 10, 3) := by decide +kernel
theorem dX3_ofForm_69 : decode cX3_ofForm 69 = .ok (.iload_n 2, 1) := by decide +kernel
theorem dX3_ofForm_70 : decode cX3_ofForm 70 = .ok (.invokevirtual 86, 3) := by decide +kernel
theorem dX3_ofForm_73 : decode cX3_ofForm 73 = .ok (.ireturn, 1) := by decide +kernel
theorem dX3_ofForm_74 : decode cX3_ofForm 74 = .ok (.aload_n 0, 1) := by decide +kernel
theorem dX3_ofForm_75 : decode cX3_ofForm 75 = .ok (.getfield 10, 3) := by decide +kernel
theorem dX3_ofForm_78 : decode cX3_ofForm 78 = .ok (.iload_n 2, 1) := by decide +kernel
theorem dX3_ofForm_79 : decode cX3_ofForm 79 = .ok (.invokevirtual 240, 3) := by decide +kernel
theorem dX3_ofForm_82 : decode cX3_ofForm 82 = .ok (.ireturn, 1) := by decide +kernel
theorem dX3_ofForm_83 : decode cX3_ofForm 83 = .ok (.aload_n 0, 1) := by decide +kernel
theorem dX3_ofForm_84 : decode cX3_ofForm 84 = .ok (.getfield 10, 3) := by decide +kernel
theorem dX3_ofForm_87 : decode cX3_ofForm 87 = .ok (.iload_n 2, 1) := by decide +kernel
theorem dX3_ofForm_88 : decode cX3_ofForm 88 = .ok (.invokevirtual 86, 3) := by decide +kernel
theorem dX3_ofForm_91 : decode cX3_ofForm 91 = .ok (.ifCond .ne 7, 3) := by decide +kernel
theorem dX3_ofForm_94 : decode cX3_ofForm 94 = .ok (.iconst 1, 1) := by decide +kernel
theorem dX3_ofForm_95 : decode cX3_ofForm 95 = .ok (.goto 4, 3) := by decide +kernel
theorem dX3_ofForm_98 : decode cX3_ofForm 98 = .ok (.iconst 0, 1) := by decide +kernel
theorem dX3_ofForm_99 : decode cX3_ofForm 99 = .ok (.ireturn, 1) := by decide +kernel
theorem dX3_ofForm_100 : decode cX3_ofForm 100 = .ok (.iload_n 2, 1) := by decide +kernel
theorem dX3_ofForm_101 : decode cX3_ofForm 101 = .ok (.invokestatic 243, 3) := by decide +kernel
theorem dX3_ofForm_104 : decode cX3_ofForm 104 = .ok (.ireturn, 1) := by decide +kernel
theorem dX3_ofForm_105 : decode cX3_ofForm 105 = .ok (.iload_n 2, 1) := by decide +kernel
theorem dX3_ofForm_106 : decode cX3_ofForm 106 = .ok (.ireturn, 1) := by decide +kernel
theorem dX3_ofForm_107 : decode cX3_ofForm 107 = .ok (.aload_n 0, 1) := by decide +kernel
theorem dX3_ofForm_108 : decode cX3_ofForm 108 = .ok (.getfield 10, 3) := by decide +kernel
theorem dX3_ofForm_111 : decode cX3_ofForm 111 = .ok (.invokevirtual 89, 3) := by decide +kernel
theorem dX3_ofForm_114 : decode cX3_ofForm 114 = .ok (.ireturn, 1) := by decide +kernel
theorem dX3_ofForm_115 : decode cX3_ofForm 115 = .ok (.aload_n 0, 1) := by decide +kernel
theorem dX3_ofForm_116 : decode cX3_ofForm 116 = .ok (.getfield 22, 3) := by decide +kernel
theorem dX3_ofForm_119 : decode cX3_ofForm 119 = .ok (.invokevirtual 111, 3) := by decide +kernel
theorem dX3_ofForm_122 : decode cX3_ofForm 122 = .ok (.ireturn, 1) := by decide +kernel
set_option maxRecDepth 20000 in
theorem ggX3_ofTrial_X0_copyFrom : GoodIn wsX3_ofTrial wsX0_copyFrom := goodIn_r _ [6, 7, 8, 9, 10, 11, 12, 13, 14, 15, 16, 17, 77, 78, 79, 80, 81, 82, 83] (by decide +kernel) (by decide +kernel)
set_option maxRecDepth 20000 in
theorem gX3_ofTrial_X0_copyFrom_n248 : GoodIn wsX3_ofTrial (wsX0_copyFrom) := ggX3_ofTrial_X0_copyFrom
set_option maxRecDepth 20000 in
theorem ggX3_ofTrial_X0_give : GoodIn wsX3_ofTrial wsX0_give := goodIn_r _ [20, 12, 16, 14, 17, 77, 78, 79, 80, 81, 82, 83] (by decide +kernel) (by decide +kernel)
set_option maxRecDepth 20000 in
theorem gX3_ofTrial_X0_give_n80 : GoodIn wsX3_ofTrial (wsX0_give) := ggX3_ofTrial_X0_give
set_option maxRecDepth 20000 in
theorem ggX3_ofTrial_X0_openParts : GoodIn wsX3_ofTrial wsX0_openParts := goodIn_r _ [23, 24, 25, 26, 4, 27, 7, 12, 28, 29, 30, 31, 8, 10, 13, 14, 15, 32, 33, 34, 35, 9, 36, 37, 38, 39, 40, 41, 11, 42, 43, 44, 45, 77, 78, 79, 80, 81, 82, 83] (by decide +kernel) (by decide +kernel)
set_option maxRecDepth 20000 in
theorem gX3_ofTrial_X0_openParts_n83 : GoodIn wsX3_ofTrial (wsX0_openParts) := ggX3_ofTrial_X0_openParts
set_option maxRecDepth 20000 in
theorem ggX3_ofTrial_X0_wanting : GoodIn wsX3_ofTrial wsX0_wanting := goodIn_r _ [48, 7, 49, 50, 51, 4, 52, 32, 33, 34, 35, 9, 13, 14, 15, 36, 37, 42, 43, 44, 45, 8, 12, 77, 78, 79, 80, 81, 82, 83] (by decide +kernel) (by decide +kernel)
set_option maxRecDepth 20000 in
theorem gX3_ofTrial_X0_wanting_n86 : GoodIn wsX3_ofTrial (wsX0_wanting) := ggX3_ofTrial_X0_wanting
set_option maxRecDepth 20000 in
theorem ggX3_ofTrial_X0_lastTotal : GoodIn wsX3_ofTrial wsX0_lastTotal := goodIn_r _ [55, 7, 8, 13, 14, 15, 77, 78, 79, 80, 81, 82, 83] (by decide +kernel) (by decide +kernel)
set_option maxRecDepth 20000 in
theorem gX3_ofTrial_X0_lastTotal_n251 : GoodIn wsX3_ofTrial (wsX0_lastTotal) := ggX3_ofTrial_X0_lastTotal
set_option maxRecDepth 20000 in
theorem ggX3_ofTrial_X0_valueOf : GoodIn wsX3_ofTrial wsX0_valueOf := goodIn_r _ [58, 7, 59, 8, 13, 14, 15, 60, 61, 62, 4, 63, 10, 64, 65, 66, 67, 68, 36, 37, 32, 33, 34, 35, 9, 69, 70, 71, 72, 12, 42, 43, 44, 45, 16, 17, 77, 78, 79, 80, 81, 82, 83] (by decide +kernel) (by decide +kernel)
set_option maxRecDepth 20000 in
theorem gX3_ofTrial_X0_valueOf_n213 : GoodIn wsX3_ofTrial (wsX0_valueOf) := ggX3_ofTrial_X0_valueOf
theorem dX3_ofTrial_0 : decode cX3_ofTrial 0 = .ok (.aload_n 0, 1) := by decide +kernel
theorem dX3_ofTrial_1 : decode cX3_ofTrial 1 = .ok (.getfield 16, 3) := by decide +kernel
theorem dX3_ofTrial_4 : decode cX3_ofTrial 4 = .ok (.aload_n 0, 1) := by decide +kernel
theorem dX3_ofTrial_5 : decode cX3_ofTrial 5 = .ok (.getfield 10, 3) := by decide +kernel
theorem dX3_ofTrial_8 : decode cX3_ofTrial 8 = .ok (.invokevirtual 248, 3) := by decide +kernel
theorem dX3_ofTrial_11 : decode cX3_ofTrial 11 = .ok (.aload_n 0, 1) := by decide +kernel
theorem dX3_ofTrial_12 : decode cX3_ofTrial 12 = .ok (.getfield 16, 3) := by decide +kernel
theorem dX3_ofTrial_15 : decode cX3_ofTrial 15 = .ok (.iload_n 1, 1) := by decide +kernel
theorem dX3_ofTrial_16 : decode cX3_ofTrial 16 = .ok (.iload_n 2, 1) := by decide +kernel
theorem dX3_ofTrial_17 : decode cX3_ofTrial 17 = .ok (.invokevirtual 80, 3) := by decide +kernel
theorem dX3_ofTrial_20 : decode cX3_ofTrial 20 = .ok (.aload_n 0, 1) := by decide +kernel
theorem dX3_ofTrial_21 : decode cX3_ofTrial 21 = .ok (.getfield 16, 3) := by decide +kernel
theorem dX3_ofTrial_24 : decode cX3_ofTrial 24 = .ok (.invokevirtual 83, 3) := by decide +kernel
theorem dX3_ofTrial_27 : decode cX3_ofTrial 27 = .ok (.istore 4, 2) := by decide +kernel
theorem dX3_ofTrial_29 : decode cX3_ofTrial 29 = .ok (.iload_n 3, 1) := by decide +kernel
theorem dX3_ofTrial_30 : decode cX3_ofTrial 30 = .ok (.lookupswitch 39 #[(0, 26), (1, 36)], 26) := by decide +kernel
theorem dX3_ofTrial_56 : decode cX3_ofTrial 56 = .ok (.aload_n 0, 1) := by decide +kernel
theorem dX3_ofTrial_57 : decode cX3_ofTrial 57 = .ok (.getfield 16, 3) := by decide +kernel
theorem dX3_ofTrial_60 : decode cX3_ofTrial 60 = .ok (.iload 4, 2) := by decide +kernel
theorem dX3_ofTrial_62 : decode cX3_ofTrial 62 = .ok (.invokevirtual 86, 3) := by decide +kernel
theorem dX3_ofTrial_65 : decode cX3_ofTrial 65 = .ok (.ireturn, 1) := by decide +kernel
theorem dX3_ofTrial_66 : decode cX3_ofTrial 66 = .ok (.iload 4, 2) := by decide +kernel
theorem dX3_ofTrial_68 : decode cX3_ofTrial 68 = .ok (.ireturn, 1) := by decide +kernel
theorem dX3_ofTrial_69 : decode cX3_ofTrial 69 = .ok (.aload_n 0, 1) := by decide +kernel
theorem dX3_ofTrial_70 : decode cX3_ofTrial 70 = .ok (.getfield 16, 3) := by decide +kernel
theorem dX3_ofTrial_73 : decode cX3_ofTrial 73 = .ok (.aload_n 0, 1) := by decide +kernel
theorem dX3_ofTrial_74 : decode cX3_ofTrial 74 = .ok (.getfield 16, 3) := by decide +kernel
theorem dX3_ofTrial_77 : decode cX3_ofTrial 77 = .ok (.invokevirtual 251, 3) := by decide +kernel
theorem dX3_ofTrial_80 : decode cX3_ofTrial 80 = .ok (.iload 4, 2) := by decide +kernel
theorem dX3_ofTrial_82 : decode cX3_ofTrial 82 = .ok (.invokevirtual 213, 3) := by decide +kernel
theorem dX3_ofTrial_85 : decode cX3_ofTrial 85 = .ok (.ireturn, 1) := by decide +kernel
theorem dX3_isInMask_0 : decode cX3_isInMask 0 = .ok (.iload_n 1, 1) := by decide +kernel
theorem dX3_isInMask_1 : decode cX3_isInMask 1 = .ok (.iload_n 0, 1) := by decide +kernel
theorem dX3_isInMask_2 : decode cX3_isInMask 2 = .ok (.ishr, 1) := by decide +kernel
theorem dX3_isInMask_3 : decode cX3_isInMask 3 = .ok (.iconst 1, 1) := by decide +kernel
theorem dX3_isInMask_4 : decode cX3_isInMask 4 = .ok (.iand, 1) := by decide +kernel
theorem dX3_isInMask_5 : decode cX3_isInMask 5 = .ok (.iconst 1, 1) := by decide +kernel
theorem dX3_isInMask_6 : decode cX3_isInMask 6 = .ok (.if_icmp .ne 7, 3) := by decide +kernel
theorem dX3_isInMask_9 : decode cX3_isInMask 9 = .ok (.iconst 1, 1) := by decide +kernel
theorem dX3_isInMask_10 : decode cX3_isInMask 10 = .ok (.goto 4, 3) := by decide +kernel
theorem dX3_isInMask_13 : decode cX3_isInMask 13 = .ok (.iconst 0, 1) := by decide +kernel
theorem dX3_isInMask_14 : decode cX3_isInMask 14 = .ok (.ireturn, 1) := by decide +kernel
theorem dX3_mix_0 : decode cX3_mix 0 = .ok (.ldc2_w 254, 3) := by decide +kernel
theorem dX3_mix_3 : decode cX3_mix 3 = .ok (.lload_n 0, 1) := by decide +kernel
theorem dX3_mix_4 : decode cX3_mix 4 = .ok (.lmul, 1) := by decide +kernel
theorem dX3_mix_5 : decode cX3_mix 5 = .ok (.lload_n 2, 1) := by decide +kernel
theorem dX3_mix_6 : decode cX3_mix 6 = .ok (.ladd, 1) := by decide +kernel
theorem dX3_mix_7 : decode cX3_mix 7 = .ok (.lreturn, 1) := by decide +kernel
set_option maxRecDepth 20000 in
theorem ggX3_hashCounts_X3_ofForm : GoodIn wsX3_hashCounts wsX3_ofForm := goodIn_r _ [5, 6, 7, 8, 9, 10, 11, 12, 13, 14, 15, 16, 17, 18, 19, 20, 21, 4, 22, 23, 24, 25, 26, 27, 28, 29, 30, 31, 32, 33, 34, 35, 36, 37, 38, 39, 40, 41, 42, 43, 44, 45, 46, 47, 48, 49, 50, 51, 52, 53, 54, 55, 60, 61, 62, 63, 64, 65, 66, 67, 68, 69, 70, 71, 72, 73] (by decide +kernel) (by decide +kernel)
set_option maxRecDepth 20000 in
theorem gX3_hashCounts_X3_ofForm : GoodIn wsX3_hashCounts (wsV RX3 122 RX3 yX3_ofForm wsX3_ofForm) := goodIn_app (goodIn_of _ (by decide +kernel)) ggX3_hashCounts_X3_ofForm
set_option maxRecDepth 20000 in
theorem ggX3_hashCounts_X3_mix : GoodIn wsX3_hashCounts wsX3_mix := goodIn_r _ [58, 59] (by decide +kernel) (by decide +kernel)
set_option maxRecDepth 20000 in
theorem gX3_hashCounts_X3_mix : GoodIn wsX3_hashCounts (va_wsS RX3 158 yX3_mix wsX3_mix) := goodIn_app (goodIn_of _ (by decide +kernel)) ggX3_hashCounts_X3_mix
theorem dX3_hashCounts_0 : decode cX3_hashCounts 0 = .ok (.lload_n 1, 1) := by decide +kernel
theorem dX3_hashCounts_1 : decode cX3_hashCounts 1 = .ok (.lstore 4, 2) := by decide +kernel
theorem dX3_hashCounts_3 : decode cX3_hashCounts 3 = .ok (.iconst 0, 1) := by decide +kernel
theorem dX3_hashCounts_4 : decode cX3_hashCounts 4 = .ok (.istore 6, 2) := by decide +kernel
theorem dX3_hashCounts_6 : decode cX3_hashCounts 6 = .ok (.iload 6, 2) := by decide +kernel
theorem dX3_hashCounts_8 : decode cX3_hashCounts 8 = .ok (.bipush 8, 2) := by decide +kernel
theorem dX3_hashCounts_10 : decode cX3_hashCounts 10 = .ok (.if_icmp .gt 24, 3) := by decide +kernel
theorem dX3_hashCounts_13 : decode cX3_hashCounts 13 = .ok (.lload 4, 2) := by decide +kernel
theorem dX3_hashCounts_15 : decode cX3_hashCounts 15 = .ok (.aload_n 0, 1) := by decide +kernel
theorem dX3_hashCounts_16 : decode cX3_hashCounts 16 = .ok (.iload 6, 2) := by decide +kernel
theorem dX3_hashCounts_18 : decode cX3_hashCounts 18 = .ok (.iload_n 3, 1) := by decide +kernel
theorem dX3_hashCounts_19 : decode cX3_hashCounts 19 = .ok (.invokevirtual 122, 3) := by decide +kernel
theorem dX3_hashCounts_22 : decode cX3_hashCounts 22 = .ok (.i2l, 1) := by decide +kernel
theorem dX3_hashCounts_23 : decode cX3_hashCounts 23 = .ok (.invokestatic 158, 3) := by decide +kernel
theorem dX3_hashCounts_26 : decode cX3_hashCounts 26 = .ok (.lstore 4, 2) := by decide +kernel
theorem dX3_hashCounts_28 : decode cX3_hashCounts 28 = .ok (.iinc 6 1, 3) := by decide +kernel
theorem dX3_hashCounts_31 : decode cX3_hashCounts 31 = .ok (.goto (-25), 3) := by decide +kernel
theorem dX3_hashCounts_34 : decode cX3_hashCounts 34 = .ok (.lload 4, 2) := by decide +kernel
theorem dX3_hashCounts_36 : decode cX3_hashCounts 36 = .ok (.lreturn, 1) := by decide +kernel
set_option maxRecDepth 20000 in
theorem ggX3_hashBoxes_X0_size : GoodIn wsX3_hashBoxes wsX0_size := goodIn_r _ [5, 6, 107, 108, 109, 110, 111, 112, 113] (by decide +kernel) (by decide +kernel)
set_option maxRecDepth 20000 in
theorem gX3_hashBoxes_X0_size_n54 : GoodIn wsX3_hashBoxes (wsX0_size) := ggX3_hashBoxes_X0_size
set_option maxRecDepth 20000 in
theorem ggX3_hashBoxes_X3_ofBox : GoodIn wsX3_hashBoxes wsX3_ofBox := goodIn_r _ [11, 1, 12, 3, 13, 14, 15, 16, 10, 17, 18, 19, 20, 21, 22, 23, 24, 25, 26, 27, 28, 29, 30, 31, 32, 33, 34, 35, 36, 6, 37, 38, 39, 40, 41, 42, 43, 44, 45, 46, 47, 48, 49, 50, 51, 52, 53, 54, 55, 56, 57, 58, 59, 60, 61, 62, 63, 64, 65, 103, 104, 105, 106, 107, 108, 109, 110, 111, 112, 113] (by decide +kernel) (by decide +kernel)
set_option maxRecDepth 20000 in
theorem gX3_hashBoxes_X3_ofBox : GoodIn wsX3_hashBoxes (wsV RX3 115 RX3 yX3_ofBox wsX3_ofBox) := goodIn_app (goodIn_of _ (by decide +kernel)) ggX3_hashBoxes_X3_ofBox
set_option maxRecDepth 20000 in
theorem ggX3_hashBoxes_X3_mix : GoodIn wsX3_hashBoxes wsX3_mix := goodIn_r _ [68, 69] (by decide +kernel) (by decide +kernel)
set_option maxRecDepth 20000 in
theorem gX3_hashBoxes_X3_mix : GoodIn wsX3_hashBoxes (va_wsS RX3 158 yX3_mix wsX3_mix) := goodIn_app (goodIn_of _ (by decide +kernel)) ggX3_hashBoxes_X3_mix
set_option maxRecDepth 20000 in
theorem ggX3_hashBoxes_X0_kindOf : GoodIn wsX3_hashBoxes wsX0_kindOf := goodIn_r _ [14, 15, 16, 10, 17, 107, 108, 109, 110, 111, 112, 113] (by decide +kernel) (by decide +kernel)
set_option maxRecDepth 20000 in
theorem gX3_hashBoxes_X0_kindOf_n65 : GoodIn wsX3_hashBoxes (wsX0_kindOf) := ggX3_hashBoxes_X0_kindOf
set_option maxRecDepth 20000 in
theorem ggX3_hashBoxes_X3_ofTrial : GoodIn wsX3_hashBoxes wsX3_ofTrial := goodIn_r _ [73, 74, 1, 75, 3, 76, 77, 6, 15, 21, 25, 29, 33, 16, 10, 17, 61, 62, 78, 79, 80, 81, 82, 83, 84, 85, 86, 87, 88, 89, 90, 91, 49, 50, 51, 52, 47, 48, 92, 93, 94, 95, 57, 58, 59, 60, 96, 97, 98, 99, 63, 64, 65, 100, 101, 102, 34, 35, 36, 37, 38, 39, 40, 41, 42, 43, 44, 45, 46, 53, 54, 55, 56, 103, 104, 105, 106, 107, 108, 109, 110, 111, 112, 113] (by decide +kernel) (by decide +kernel)
set_option maxRecDepth 20000 in
theorem gX3_hashBoxes_X3_ofTrial : GoodIn wsX3_hashBoxes (wsV RX3 126 RX3 yX3_ofTrial wsX3_ofTrial) := goodIn_app (goodIn_of _ (by decide +kernel)) ggX3_hashBoxes_X3_ofTrial
theorem dX3_hashBoxes_0 : decode cX3_hashBoxes 0 = .ok (.lload_n 1, 1) := by decide +kernel
theorem dX3_hashBoxes_1 : decode cX3_hashBoxes 1 = .ok (.lstore 4, 2) := by decide +kernel
theorem dX3_hashBoxes_3 : decode cX3_hashBoxes 3 = .ok (.aload_n 0, 1) := by decide +kernel
theorem dX3_hashBoxes_4 : decode cX3_hashBoxes 4 = .ok (.getfield 10, 3) := by decide +kernel
theorem dX3_hashBoxes_7 : decode cX3_hashBoxes 7 = .ok (.invokevirtual 54, 3) := by decide +kernel
theorem dX3_hashBoxes_10 : decode cX3_hashBoxes 10 = .ok (.istore 6, 2) := by decide +kernel
theorem dX3_hashBoxes_12 : decode cX3_hashBoxes 12 = .ok (.iconst 0, 1) := by decide +kernel
theorem dX3_hashBoxes_13 : decode cX3_hashBoxes 13 = .ok (.istore 7, 2) := by decide +kernel
theorem dX3_hashBoxes_15 : decode cX3_hashBoxes 15 = .ok (.iload 7, 2) := by decide +kernel
theorem dX3_hashBoxes_17 : decode cX3_hashBoxes 17 = .ok (.iload 6, 2) := by decide +kernel
theorem dX3_hashBoxes_19 : decode cX3_hashBoxes 19 = .ok (.if_icmp .ge 87, 3) := by decide +kernel
theorem dX3_hashBoxes_22 : decode cX3_hashBoxes 22 = .ok (.iconst 0, 1) := by decide +kernel
theorem dX3_hashBoxes_23 : decode cX3_hashBoxes 23 = .ok (.istore 8, 2) := by decide +kernel
theorem dX3_hashBoxes_25 : decode cX3_hashBoxes 25 = .ok (.iload 8, 2) := by decide +kernel
theorem dX3_hashBoxes_27 : decode cX3_hashBoxes 27 = .ok (.bipush 7, 2) := by decide +kernel
theorem dX3_hashBoxes_29 : decode cX3_hashBoxes 29 = .ok (.if_icmp .gt 26, 3) := by decide +kernel
theorem dX3_hashBoxes_32 : decode cX3_hashBoxes 32 = .ok (.lload 4, 2) := by decide +kernel
theorem dX3_hashBoxes_34 : decode cX3_hashBoxes 34 = .ok (.aload_n 0, 1) := by decide +kernel
theorem dX3_hashBoxes_35 : decode cX3_hashBoxes 35 = .ok (.iload 7, 2) := by decide +kernel
theorem dX3_hashBoxes_37 : decode cX3_hashBoxes 37 = .ok (.iload 8, 2) := by decide +kernel
theorem dX3_hashBoxes_39 : decode cX3_hashBoxes 39 = .ok (.iload_n 3, 1) := by decide +kernel
theorem dX3_hashBoxes_40 : decode cX3_hashBoxes 40 = .ok (.invokevirtual 115, 3) := by decide +kernel
theorem dX3_hashBoxes_43 : decode cX3_hashBoxes 43 = .ok (.i2l, 1) := by decide +kernel
theorem dX3_hashBoxes_44 : decode cX3_hashBoxes 44 = .ok (.invokestatic 158, 3) := by decide +kernel
theorem dX3_hashBoxes_47 : decode cX3_hashBoxes 47 = .ok (.lstore 4, 2) := by decide +kernel
theorem dX3_hashBoxes_49 : decode cX3_hashBoxes 49 = .ok (.iinc 8 1, 3) := by decide +kernel
theorem dX3_hashBoxes_52 : decode cX3_hashBoxes 52 = .ok (.goto (-27), 3) := by decide +kernel
theorem dX3_hashBoxes_55 : decode cX3_hashBoxes 55 = .ok (.aload_n 0, 1) := by decide +kernel
theorem dX3_hashBoxes_56 : decode cX3_hashBoxes 56 = .ok (.getfield 10, 3) := by decide +kernel
theorem dX3_hashBoxes_59 : decode cX3_hashBoxes 59 = .ok (.iload 7, 2) := by decide +kernel
theorem dX3_hashBoxes_61 : decode cX3_hashBoxes 61 = .ok (.invokevirtual 65, 3) := by decide +kernel
theorem dX3_hashBoxes_64 : decode cX3_hashBoxes 64 = .ok (.iconst 3, 1) := by decide +kernel
theorem dX3_hashBoxes_65 : decode cX3_hashBoxes 65 = .ok (.if_icmp .eq 35, 3) := by decide +kernel
theorem dX3_hashBoxes_68 : decode cX3_hashBoxes 68 = .ok (.iconst 0, 1) := by decide +kernel
theorem dX3_hashBoxes_69 : decode cX3_hashBoxes 69 = .ok (.istore 8, 2) := by decide +kernel
theorem dX3_hashBoxes_71 : decode cX3_hashBoxes 71 = .ok (.iload 8, 2) := by decide +kernel
theorem dX3_hashBoxes_73 : decode cX3_hashBoxes 73 = .ok (.iconst 2, 1) := by decide +kernel
theorem dX3_hashBoxes_74 : decode cX3_hashBoxes 74 = .ok (.if_icmp .gt 26, 3) := by decide +kernel
theorem dX3_hashBoxes_77 : decode cX3_hashBoxes 77 = .ok (.lload 4, 2) := by decide +kernel
theorem dX3_hashBoxes_79 : decode cX3_hashBoxes 79 = .ok (.aload_n 0, 1) := by decide +kernel
theorem dX3_hashBoxes_80 : decode cX3_hashBoxes 80 = .ok (.iload 7, 2) := by decide +kernel
theorem dX3_hashBoxes_82 : decode cX3_hashBoxes 82 = .ok (.iconst (-1), 1) := by decide +kernel
theorem dX3_hashBoxes_83 : decode cX3_hashBoxes 83 = .ok (.iload 8, 2) := by decide +kernel
theorem dX3_hashBoxes_85 : decode cX3_hashBoxes 85 = .ok (.invokevirtual 126, 3) := by decide +kernel
theorem dX3_hashBoxes_88 : decode cX3_hashBoxes 88 = .ok (.i2l, 1) := by decide +kernel
theorem dX3_hashBoxes_89 : decode cX3_hashBoxes 89 = .ok (.invokestatic 158, 3) := by decide +kernel
theorem dX3_hashBoxes_92 : decode cX3_hashBoxes 92 = .ok (.lstore 4, 2) := by decide +kernel
theorem dX3_hashBoxes_94 : decode cX3_hashBoxes 94 = .ok (.iinc 8 1, 3) := by decide +kernel
theorem dX3_hashBoxes_97 : decode cX3_hashBoxes 97 = .ok (.goto (-26), 3) := by decide +kernel
theorem dX3_hashBoxes_100 : decode cX3_hashBoxes 100 = .ok (.iinc 7 1, 3) := by decide +kernel
theorem dX3_hashBoxes_103 : decode cX3_hashBoxes 103 = .ok (.goto (-88), 3) := by decide +kernel
theorem dX3_hashBoxes_106 : decode cX3_hashBoxes 106 = .ok (.lload 4, 2) := by decide +kernel
theorem dX3_hashBoxes_108 : decode cX3_hashBoxes 108 = .ok (.lreturn, 1) := by decide +kernel
set_option maxRecDepth 20000 in
theorem ggX3_hashParts_X3_ofPart : GoodIn wsX3_hashParts wsX3_ofPart := goodIn_r _ [5, 6, 7, 8, 4, 9, 10, 11, 12, 13, 14, 15, 16, 17, 18, 19, 20, 21, 22, 23, 24, 25, 26, 27, 28, 29, 30, 31, 32, 33, 34, 35, 36, 37, 38, 39, 40, 41, 42, 43, 44, 45, 46, 51, 52, 53, 54, 55, 56, 57, 58, 59, 60, 61] (by decide +kernel) (by decide +kernel)
set_option maxRecDepth 20000 in
theorem gX3_hashParts_X3_ofPart : GoodIn wsX3_hashParts (wsV RX3 119 RX3 yX3_ofPart wsX3_ofPart) := goodIn_app (goodIn_of _ (by decide +kernel)) ggX3_hashParts_X3_ofPart
set_option maxRecDepth 20000 in
theorem ggX3_hashParts_X3_mix : GoodIn wsX3_hashParts wsX3_mix := goodIn_r _ [49, 50] (by decide +kernel) (by decide +kernel)
set_option maxRecDepth 20000 in
theorem gX3_hashParts_X3_mix : GoodIn wsX3_hashParts (va_wsS RX3 158 yX3_mix wsX3_mix) := goodIn_app (goodIn_of _ (by decide +kernel)) ggX3_hashParts_X3_mix
theorem dX3_hashParts_0 : decode cX3_hashParts 0 = .ok (.lload_n 1, 1) := by decide +kernel
theorem dX3_hashParts_1 : decode cX3_hashParts 1 = .ok (.lstore 4, 2) := by decide +kernel
theorem dX3_hashParts_3 : decode cX3_hashParts 3 = .ok (.iconst 0, 1) := by decide +kernel
theorem dX3_hashParts_4 : decode cX3_hashParts 4 = .ok (.istore 6, 2) := by decide +kernel
theorem dX3_hashParts_6 : decode cX3_hashParts 6 = .ok (.iload 6, 2) := by decide +kernel
theorem dX3_hashParts_8 : decode cX3_hashParts 8 = .ok (.iconst 5, 1) := by decide +kernel
theorem dX3_hashParts_9 : decode cX3_hashParts 9 = .ok (.if_icmp .ge 41, 3) := by decide +kernel
theorem dX3_hashParts_12 : decode cX3_hashParts 12 = .ok (.iconst 0, 1) := by decide +kernel
theorem dX3_hashParts_13 : decode cX3_hashParts 13 = .ok (.istore 7, 2) := by decide +kernel
theorem dX3_hashParts_15 : decode cX3_hashParts 15 = .ok (.iload 7, 2) := by decide +kernel
theorem dX3_hashParts_17 : decode cX3_hashParts 17 = .ok (.iconst 5, 1) := by decide +kernel
theorem dX3_hashParts_18 : decode cX3_hashParts 18 = .ok (.if_icmp .gt 26, 3) := by decide +kernel
theorem dX3_hashParts_21 : decode cX3_hashParts 21 = .ok (.lload 4, 2) := by decide +kernel
theorem dX3_hashParts_23 : decode cX3_hashParts 23 = .ok (.aload_n 0, 1) := by decide +kernel
theorem dX3_hashParts_24 : decode cX3_hashParts 24 = .ok (.iload 6, 2) := by decide +kernel
theorem dX3_hashParts_26 : decode cX3_hashParts 26 = .ok (.iload 7, 2) := by decide +kernel
theorem dX3_hashParts_28 : decode cX3_hashParts 28 = .ok (.iload_n 3, 1) := by decide +kernel
theorem dX3_hashParts_29 : decode cX3_hashParts 29 = .ok (.invokevirtual 119, 3) := by decide +kernel
theorem dX3_hashParts_32 : decode cX3_hashParts 32 = .ok (.i2l, 1) := by decide +kernel
theorem dX3_hashParts_33 : decode cX3_hashParts 33 = .ok (.invokestatic 158, 3) := by decide +kernel
theorem dX3_hashParts_36 : decode cX3_hashParts 36 = .ok (.lstore 4, 2) := by decide +kernel
theorem dX3_hashParts_38 : decode cX3_hashParts 38 = .ok (.iinc 7 1, 3) := by decide +kernel
theorem dX3_hashParts_41 : decode cX3_hashParts 41 = .ok (.goto (-26), 3) := by decide +kernel
theorem dX3_hashParts_44 : decode cX3_hashParts 44 = .ok (.iinc 6 1, 3) := by decide +kernel
theorem dX3_hashParts_47 : decode cX3_hashParts 47 = .ok (.goto (-41), 3) := by decide +kernel
theorem dX3_hashParts_50 : decode cX3_hashParts 50 = .ok (.lload 4, 2) := by decide +kernel
theorem dX3_hashParts_52 : decode cX3_hashParts 52 = .ok (.lreturn, 1) := by decide +kernel
theorem dX3_bitsOfShare_0 : decode cX3_bitsOfShare 0 = .ok (.dload_n 0, 1) := by decide +kernel
theorem dX3_bitsOfShare_1 : decode cX3_bitsOfShare 1 = .ok (.dconst 0, 1) := by decide +kernel
theorem dX3_bitsOfShare_2 : decode cX3_bitsOfShare 2 = .ok (.dcmp .g, 1) := by decide +kernel
theorem dX3_bitsOfShare_3 : decode cX3_bitsOfShare 3 = .ok (.ifCond .gt 5, 3) := by decide +kernel
theorem dX3_bitsOfShare_6 : decode cX3_bitsOfShare 6 = .ok (.lconst 0, 1) := by decide +kernel
theorem dX3_bitsOfShare_7 : decode cX3_bitsOfShare 7 = .ok (.lreturn, 1) := by decide +kernel
theorem dX3_bitsOfShare_8 : decode cX3_bitsOfShare 8 = .ok (.sipush 1023, 3) := by decide +kernel
theorem dX3_bitsOfShare_11 : decode cX3_bitsOfShare 11 = .ok (.istore_n 2, 1) := by decide +kernel
theorem dX3_bitsOfShare_12 : decode cX3_bitsOfShare 12 = .ok (.dload_n 0, 1) := by decide +kernel
theorem dX3_bitsOfShare_13 : decode cX3_bitsOfShare 13 = .ok (.dstore_n 3, 1) := by decide +kernel
theorem dX3_bitsOfShare_14 : decode cX3_bitsOfShare 14 = .ok (.iconst 0, 1) := by decide +kernel
theorem dX3_bitsOfShare_15 : decode cX3_bitsOfShare 15 = .ok (.istore 5, 2) := by decide +kernel
theorem dX3_bitsOfShare_17 : decode cX3_bitsOfShare 17 = .ok (.iload 5, 2) := by decide +kernel
theorem dX3_bitsOfShare_19 : decode cX3_bitsOfShare 19 = .ok (.sipush 1023, 3) := by decide +kernel
theorem dX3_bitsOfShare_22 : decode cX3_bitsOfShare 22 = .ok (.if_icmp .ge 24, 3) := by decide +kernel
theorem dX3_bitsOfShare_25 : decode cX3_bitsOfShare 25 = .ok (.dload_n 3, 1) := by decide +kernel
theorem dX3_bitsOfShare_26 : decode cX3_bitsOfShare 26 = .ok (.dconst 1, 1) := by decide +kernel
theorem dX3_bitsOfShare_27 : decode cX3_bitsOfShare 27 = .ok (.dcmp .g, 1) := by decide +kernel
theorem dX3_bitsOfShare_28 : decode cX3_bitsOfShare 28 = .ok (.ifCond .ge 18, 3) := by decide +kernel
theorem dX3_bitsOfShare_31 : decode cX3_bitsOfShare 31 = .ok (.dload_n 3, 1) := by decide +kernel
theorem dX3_bitsOfShare_32 : decode cX3_bitsOfShare 32 = .ok (.ldc2_w 256, 3) := by decide +kernel
theorem dX3_bitsOfShare_35 : decode cX3_bitsOfShare 35 = .ok (.dmul, 1) := by decide +kernel
theorem dX3_bitsOfShare_36 : decode cX3_bitsOfShare 36 = .ok (.dstore_n 3, 1) := by decide +kernel
theorem dX3_bitsOfShare_37 : decode cX3_bitsOfShare 37 = .ok (.iinc 2 (-1), 3) := by decide +kernel
theorem dX3_bitsOfShare_40 : decode cX3_bitsOfShare 40 = .ok (.iinc 5 1, 3) := by decide +kernel
theorem dX3_bitsOfShare_43 : decode cX3_bitsOfShare 43 = .ok (.goto (-26), 3) := by decide +kernel
theorem dX3_bitsOfShare_46 : decode cX3_bitsOfShare 46 = .ok (.ldc2_w 258, 3) := by decide +kernel
theorem dX3_bitsOfShare_49 : decode cX3_bitsOfShare 49 = .ok (.lstore 5, 2) := by decide +kernel
theorem dX3_bitsOfShare_51 : decode cX3_bitsOfShare 51 = .ok (.dload_n 3, 1) := by decide +kernel
theorem dX3_bitsOfShare_52 : decode cX3_bitsOfShare 52 = .ok (.lload 5, 2) := by decide +kernel
theorem dX3_bitsOfShare_54 : decode cX3_bitsOfShare 54 = .ok (.l2d, 1) := by decide +kernel
theorem dX3_bitsOfShare_55 : decode cX3_bitsOfShare 55 = .ok (.dmul, 1) := by decide +kernel
theorem dX3_bitsOfShare_56 : decode cX3_bitsOfShare 56 = .ok (.d2l, 1) := by decide +kernel
theorem dX3_bitsOfShare_57 : decode cX3_bitsOfShare 57 = .ok (.lload 5, 2) := by decide +kernel
theorem dX3_bitsOfShare_59 : decode cX3_bitsOfShare 59 = .ok (.lsub, 1) := by decide +kernel
theorem dX3_bitsOfShare_60 : decode cX3_bitsOfShare 60 = .ok (.lstore 7, 2) := by decide +kernel
theorem dX3_bitsOfShare_62 : decode cX3_bitsOfShare 62 = .ok (.iload_n 2, 1) := by decide +kernel
theorem dX3_bitsOfShare_63 : decode cX3_bitsOfShare 63 = .ok (.i2l, 1) := by decide +kernel
theorem dX3_bitsOfShare_64 : decode cX3_bitsOfShare 64 = .ok (.bipush 52, 2) := by decide +kernel
theorem dX3_bitsOfShare_66 : decode cX3_bitsOfShare 66 = .ok (.lshl, 1) := by decide +kernel
theorem dX3_bitsOfShare_67 : decode cX3_bitsOfShare 67 = .ok (.lload 7, 2) := by decide +kernel
theorem dX3_bitsOfShare_69 : decode cX3_bitsOfShare 69 = .ok (.ladd, 1) := by decide +kernel
theorem dX3_bitsOfShare_70 : decode cX3_bitsOfShare 70 = .ok (.lreturn, 1) := by decide +kernel
theorem dX4_init_0 : decode cX4_init 0 = .ok (.aload_n 0, 1) := by decide +kernel
theorem dX4_init_1 : decode cX4_init 1 = .ok (.invokespecial 1, 3) := by decide +kernel
theorem dX4_init_4 : decode cX4_init 4 = .ok (.aload_n 0, 1) := by decide +kernel
theorem dX4_init_5 : decode cX4_init 5 = .ok (.bipush 81, 2) := by decide +kernel
theorem dX4_init_7 : decode cX4_init 7 = .ok (.newarray .int, 2) := by decide +kernel
theorem dX4_init_9 : decode cX4_init 9 = .ok (.putfield 7, 3) := by decide +kernel
theorem dX4_init_12 : decode cX4_init 12 = .ok (.aload_n 0, 1) := by decide +kernel
theorem dX4_init_13 : decode cX4_init 13 = .ok (.sipush 486, 3) := by decide +kernel
theorem dX4_init_16 : decode cX4_init 16 = .ok (.newarray .int, 2) := by decide +kernel
theorem dX4_init_18 : decode cX4_init 18 = .ok (.putfield 13, 3) := by decide +kernel
theorem dX4_init_21 : decode cX4_init 21 = .ok (.aload_n 0, 1) := by decide +kernel
theorem dX4_init_22 : decode cX4_init 22 = .ok (.bipush 60, 2) := by decide +kernel
theorem dX4_init_24 : decode cX4_init 24 = .ok (.newarray .int, 2) := by decide +kernel
theorem dX4_init_26 : decode cX4_init 26 = .ok (.putfield 16, 3) := by decide +kernel
theorem dX4_init_29 : decode cX4_init 29 = .ok (.aload_n 0, 1) := by decide +kernel
theorem dX4_init_30 : decode cX4_init 30 = .ok (.bipush 16, 2) := by decide +kernel
theorem dX4_init_32 : decode cX4_init 32 = .ok (.newarray .int, 2) := by decide +kernel
theorem dX4_init_34 : decode cX4_init 34 = .ok (.putfield 19, 3) := by decide +kernel
theorem dX4_init_37 : decode cX4_init 37 = .ok (.aload_n 0, 1) := by decide +kernel
theorem dX4_init_38 : decode cX4_init 38 = .ok (.bipush 34, 2) := by decide +kernel
theorem dX4_init_40 : decode cX4_init 40 = .ok (.newarray .int, 2) := by decide +kernel
theorem dX4_init_42 : decode cX4_init 42 = .ok (.putfield 22, 3) := by decide +kernel
theorem dX4_init_45 : decode cX4_init 45 = .ok (.aload_n 0, 1) := by decide +kernel
theorem dX4_init_46 : decode cX4_init 46 = .ok (.bipush 16, 2) := by decide +kernel
theorem dX4_init_48 : decode cX4_init 48 = .ok (.newarray .int, 2) := by decide +kernel
theorem dX4_init_50 : decode cX4_init 50 = .ok (.putfield 25, 3) := by decide +kernel
theorem dX4_init_53 : decode cX4_init 53 = .ok (.aload_n 0, 1) := by decide +kernel
theorem dX4_init_54 : decode cX4_init 54 = .ok (.bipush 16, 2) := by decide +kernel
theorem dX4_init_56 : decode cX4_init 56 = .ok (.newarray .boolean, 2) := by decide +kernel
theorem dX4_init_58 : decode cX4_init 58 = .ok (.putfield 28, 3) := by decide +kernel
theorem dX4_init_61 : decode cX4_init 61 = .ok (.return_, 1) := by decide +kernel
theorem dX4_thrown_0 : decode cX4_thrown 0 = .ok (.aload_n 0, 1) := by decide +kernel
theorem dX4_thrown_1 : decode cX4_thrown 1 = .ok (.getfield 32, 3) := by decide +kernel
theorem dX4_thrown_4 : decode cX4_thrown 4 = .ok (.ireturn, 1) := by decide +kernel
theorem dX4_in_0 : decode cX4_in 0 = .ok (.iload_n 0, 1) := by decide +kernel
theorem dX4_in_1 : decode cX4_in 1 = .ok (.iload_n 1, 1) := by decide +kernel
theorem dX4_in_2 : decode cX4_in 2 = .ok (.if_icmp .lt 12, 3) := by decide +kernel
theorem dX4_in_5 : decode cX4_in 5 = .ok (.iload_n 0, 1) := by decide +kernel
theorem dX4_in_6 : decode cX4_in 6 = .ok (.iload_n 2, 1) := by decide +kernel
theorem dX4_in_7 : decode cX4_in 7 = .ok (.if_icmp .gt 7, 3) := by decide +kernel
theorem dX4_in_10 : decode cX4_in 10 = .ok (.iconst 1, 1) := by decide +kernel
theorem dX4_in_11 : decode cX4_in 11 = .ok (.goto 4, 3) := by decide +kernel
theorem dX4_in_14 : decode cX4_in 14 = .ok (.iconst 0, 1) := by decide +kernel
theorem dX4_in_15 : decode cX4_in 15 = .ok (.ireturn, 1) := by decide +kernel
set_option maxRecDepth 20000 in
theorem ggX4_isPart_X4_in : GoodIn wsX4_isPart wsX4_in := goodIn_r _ [4] (by decide +kernel) (by decide +kernel)
set_option maxRecDepth 20000 in
theorem gX4_isPart_X4_in : GoodIn wsX4_isPart (va_wsS RX4 36 yX4_in wsX4_in) := goodIn_app (goodIn_of _ (by decide +kernel)) ggX4_isPart_X4_in
theorem dX4_isPart_0 : decode cX4_isPart 0 = .ok (.iload_n 0, 1) := by decide +kernel
theorem dX4_isPart_1 : decode cX4_isPart 1 = .ok (.iconst 0, 1) := by decide +kernel
theorem dX4_isPart_2 : decode cX4_isPart 2 = .ok (.iconst 4, 1) := by decide +kernel
theorem dX4_isPart_3 : decode cX4_isPart 3 = .ok (.invokestatic 36, 3) := by decide +kernel
theorem dX4_isPart_6 : decode cX4_isPart 6 = .ok (.ireturn, 1) := by decide +kernel
theorem dX4_isBox_0 : decode cX4_isBox 0 = .ok (.iload_n 1, 1) := by decide +kernel
theorem dX4_isBox_1 : decode cX4_isBox 1 = .ok (.ifCond .lt 17, 3) := by decide +kernel
theorem dX4_isBox_4 : decode cX4_isBox 4 = .ok (.iload_n 1, 1) := by decide +kernel
theorem dX4_isBox_5 : decode cX4_isBox 5 = .ok (.aload_n 0, 1) := by decide +kernel
theorem dX4_isBox_6 : decode cX4_isBox 6 = .ok (.getfield 7, 3) := by decide +kernel
theorem dX4_isBox_9 : decode cX4_isBox 9 = .ok (.iconst 0, 1) := by decide +kernel
theorem dX4_isBox_10 : decode cX4_isBox 10 = .ok (.iaload, 1) := by decide +kernel
theorem dX4_isBox_11 : decode cX4_isBox 11 = .ok (.if_icmp .ge 7, 3) := by decide +kernel
theorem dX4_isBox_14 : decode cX4_isBox 14 = .ok (.iconst 1, 1) := by decide +kernel
theorem dX4_isBox_15 : decode cX4_isBox 15 = .ok (.goto 4, 3) := by decide +kernel
theorem dX4_isBox_18 : decode cX4_isBox 18 = .ok (.iconst 0, 1) := by decide +kernel
theorem dX4_isBox_19 : decode cX4_isBox 19 = .ok (.ireturn, 1) := by decide +kernel
theorem dX4_of_0 : decode cX4_of 0 = .ok (.aload_n 0, 1) := by decide +kernel
theorem dX4_of_1 : decode cX4_of 1 = .ok (.getfield 7, 3) := by decide +kernel
theorem dX4_of_4 : decode cX4_of 4 = .ok (.iconst 1, 1) := by decide +kernel
theorem dX4_of_5 : decode cX4_of 5 = .ok (.iconst 5, 1) := by decide +kernel
theorem dX4_of_6 : decode cX4_of 6 = .ok (.iload_n 1, 1) := by decide +kernel
theorem dX4_of_7 : decode cX4_of 7 = .ok (.imul, 1) := by decide +kernel
theorem dX4_of_8 : decode cX4_of 8 = .ok (.iadd, 1) := by decide +kernel
theorem dX4_of_9 : decode cX4_of 9 = .ok (.iload_n 2, 1) := by decide +kernel
theorem dX4_of_10 : decode cX4_of 10 = .ok (.iadd, 1) := by decide +kernel
theorem dX4_of_11 : decode cX4_of 11 = .ok (.iaload, 1) := by decide +kernel
theorem dX4_of_12 : decode cX4_of 12 = .ok (.ireturn, 1) := by decide +kernel
theorem dX4_lay_0 : decode cX4_lay 0 = .ok (.aload_n 0, 1) := by decide +kernel
theorem dX4_lay_1 : decode cX4_lay 1 = .ok (.getfield 7, 3) := by decide +kernel
theorem dX4_lay_4 : decode cX4_lay 4 = .ok (.iconst 1, 1) := by decide +kernel
theorem dX4_lay_5 : decode cX4_lay 5 = .ok (.iconst 5, 1) := by decide +kernel
theorem dX4_lay_6 : decode cX4_lay 6 = .ok (.iload_n 1, 1) := by decide +kernel
theorem dX4_lay_7 : decode cX4_lay 7 = .ok (.imul, 1) := by decide +kernel
theorem dX4_lay_8 : decode cX4_lay 8 = .ok (.iadd, 1) := by decide +kernel
theorem dX4_lay_9 : decode cX4_lay 9 = .ok (.iload_n 2, 1) := by decide +kernel
theorem dX4_lay_10 : decode cX4_lay 10 = .ok (.iadd, 1) := by decide +kernel
theorem dX4_lay_11 : decode cX4_lay 11 = .ok (.iload_n 3, 1) := by decide +kernel
theorem dX4_lay_12 : decode cX4_lay 12 = .ok (.iastore, 1) := by decide +kernel
theorem dX4_lay_13 : decode cX4_lay 13 = .ok (.return_, 1) := by decide +kernel
theorem dX4_save_0 : decode cX4_save 0 = .ok (.aload_n 0, 1) := by decide +kernel
theorem dX4_save_1 : decode cX4_save 1 = .ok (.getfield 40, 3) := by decide +kernel
theorem dX4_save_4 : decode cX4_save 4 = .ok (.bipush 6, 2) := by decide +kernel
theorem dX4_save_6 : decode cX4_save 6 = .ok (.if_icmp .ne 43, 3) := by decide +kernel
theorem dX4_save_9 : decode cX4_save 9 = .ok (.iconst 0, 1) := by decide +kernel
theorem dX4_save_10 : decode cX4_save 10 = .ok (.istore_n 1, 1) := by decide +kernel
theorem dX4_save_11 : decode cX4_save 11 = .ok (.iload_n 1, 1) := by decide +kernel
theorem dX4_save_12 : decode cX4_save 12 = .ok (.sipush 405, 3) := by decide +kernel
theorem dX4_save_15 : decode cX4_save 15 = .ok (.if_icmp .ge 24, 3) := by decide +kernel
theorem dX4_save_18 : decode cX4_save 18 = .ok (.aload_n 0, 1) := by decide +kernel
theorem dX4_save_19 : decode cX4_save 19 = .ok (.getfield 13, 3) := by decide +kernel
theorem dX4_save_22 : decode cX4_save 22 = .ok (.iload_n 1, 1) := by decide +kernel
theorem dX4_save_23 : decode cX4_save 23 = .ok (.aload_n 0, 1) := by decide +kernel
theorem dX4_save_24 : decode cX4_save 24 = .ok (.getfield 13, 3) := by decide +kernel
theorem dX4_save_27 : decode cX4_save 27 = .ok (.iload_n 1, 1) := by decide +kernel
theorem dX4_save_28 : decode cX4_save 28 = .ok (.bipush 81, 2) := by decide +kernel
theorem dX4_save_30 : decode cX4_save 30 = .ok (.iadd, 1) := by decide +kernel
theorem dX4_save_31 : decode cX4_save 31 = .ok (.iaload, 1) := by decide +kernel
theorem dX4_save_32 : decode cX4_save 32 = .ok (.iastore, 1) := by decide +kernel
theorem dX4_save_33 : decode cX4_save 33 = .ok (.iinc 1 1, 3) := by decide +kernel
theorem dX4_save_36 : decode cX4_save 36 = .ok (.goto (-25), 3) := by decide +kernel
theorem dX4_save_39 : decode cX4_save 39 = .ok (.aload_n 0, 1) := by decide +kernel
theorem dX4_save_40 : decode cX4_save 40 = .ok (.dup, 1) := by decide +kernel
theorem dX4_save_41 : decode cX4_save 41 = .ok (.getfield 40, 3) := by decide +kernel
theorem dX4_save_44 : decode cX4_save 44 = .ok (.iconst 1, 1) := by decide +kernel
theorem dX4_save_45 : decode cX4_save 45 = .ok (.isub, 1) := by decide +kernel
theorem dX4_save_46 : decode cX4_save 46 = .ok (.putfield 40, 3) := by decide +kernel
theorem dX4_save_49 : decode cX4_save 49 = .ok (.iconst 0, 1) := by decide +kernel
theorem dX4_save_50 : decode cX4_save 50 = .ok (.istore_n 1, 1) := by decide +kernel
theorem dX4_save_51 : decode cX4_save 51 = .ok (.iload_n 1, 1) := by decide +kernel
theorem dX4_save_52 : decode cX4_save 52 = .ok (.bipush 81, 2) := by decide +kernel
theorem dX4_save_54 : decode cX4_save 54 = .ok (.if_icmp .ge 29, 3) := by decide +kernel
theorem dX4_save_57 : decode cX4_save 57 = .ok (.aload_n 0, 1) := by decide +kernel
theorem dX4_save_58 : decode cX4_save 58 = .ok (.getfield 13, 3) := by decide +kernel
theorem dX4_save_61 : decode cX4_save 61 = .ok (.aload_n 0, 1) := by decide +kernel
theorem dX4_save_62 : decode cX4_save 62 = .ok (.getfield 40, 3) := by decide +kernel
theorem dX4_save_65 : decode cX4_save 65 = .ok (.bipush 81, 2) := by decide +kernel
theorem dX4_save_67 : decode cX4_save 67 = .ok (.imul, 1) := by decide +kernel
theorem dX4_save_68 : decode cX4_save 68 = .ok (.iload_n 1, 1) := by decide +kernel
theorem dX4_save_69 : decode cX4_save 69 = .ok (.iadd, 1) := by decide +kernel
theorem dX4_save_70 : decode cX4_save 70 = .ok (.aload_n 0, 1) := by decide +kernel
theorem dX4_save_71 : decode cX4_save 71 = .ok (.getfield 7, 3) := by decide +kernel
theorem dX4_save_74 : decode cX4_save 74 = .ok (.iload_n 1, 1) := by decide +kernel
theorem dX4_save_75 : decode cX4_save 75 = .ok (.iaload, 1) := by decide +kernel
theorem dX4_save_76 : decode cX4_save 76 = .ok (.iastore, 1) := by decide +kernel
theorem dX4_save_77 : decode cX4_save 77 = .ok (.iinc 1 1, 3) := by decide +kernel
theorem dX4_save_80 : decode cX4_save 80 = .ok (.goto (-29), 3) := by decide +kernel
theorem dX4_save_83 : decode cX4_save 83 = .ok (.aload_n 0, 1) := by decide +kernel
theorem dX4_save_84 : decode cX4_save 84 = .ok (.dup, 1) := by decide +kernel
theorem dX4_save_85 : decode cX4_save 85 = .ok (.getfield 40, 3) := by decide +kernel
theorem dX4_save_88 : decode cX4_save 88 = .ok (.iconst 1, 1) := by decide +kernel
theorem dX4_save_89 : decode cX4_save 89 = .ok (.iadd, 1) := by decide +kernel
theorem dX4_save_90 : decode cX4_save 90 = .ok (.putfield 40, 3) := by decide +kernel
theorem dX4_save_93 : decode cX4_save 93 = .ok (.return_, 1) := by decide +kernel
theorem dX4_undo_0 : decode cX4_undo 0 = .ok (.aload_n 0, 1) := by decide +kernel
theorem dX4_undo_1 : decode cX4_undo 1 = .ok (.aload_n 0, 1) := by decide +kernel
theorem dX4_undo_2 : decode cX4_undo 2 = .ok (.getfield 40, 3) := by decide +kernel
theorem dX4_undo_5 : decode cX4_undo 5 = .ok (.ifCond .ne 7, 3) := by decide +kernel
theorem dX4_undo_8 : decode cX4_undo 8 = .ok (.iconst 1, 1) := by decide +kernel
theorem dX4_undo_9 : decode cX4_undo 9 = .ok (.goto 4, 3) := by decide +kernel
theorem dX4_undo_12 : decode cX4_undo 12 = .ok (.iconst 0, 1) := by decide +kernel
theorem dX4_undo_13 : decode cX4_undo 13 = .ok (.putfield 32, 3) := by decide +kernel
theorem dX4_undo_16 : decode cX4_undo 16 = .ok (.aload_n 0, 1) := by decide +kernel
theorem dX4_undo_17 : decode cX4_undo 17 = .ok (.getfield 32, 3) := by decide +kernel
theorem dX4_undo_20 : decode cX4_undo 20 = .ok (.ifCond .le 5, 3) := by decide +kernel
theorem dX4_undo_23 : decode cX4_undo 23 = .ok (.iconst 0, 1) := by decide +kernel
theorem dX4_undo_24 : decode cX4_undo 24 = .ok (.ireturn, 1) := by decide +kernel
theorem dX4_undo_25 : decode cX4_undo 25 = .ok (.aload_n 0, 1) := by decide +kernel
theorem dX4_undo_26 : decode cX4_undo 26 = .ok (.dup, 1) := by decide +kernel
theorem dX4_undo_27 : decode cX4_undo 27 = .ok (.getfield 40, 3) := by decide +kernel
theorem dX4_undo_30 : decode cX4_undo 30 = .ok (.iconst 1, 1) := by decide +kernel
theorem dX4_undo_31 : decode cX4_undo 31 = .ok (.isub, 1) := by decide +kernel
theorem dX4_undo_32 : decode cX4_undo 32 = .ok (.putfield 40, 3) := by decide +kernel
theorem dX4_undo_35 : decode cX4_undo 35 = .ok (.iconst 0, 1) := by decide +kernel
theorem dX4_undo_36 : decode cX4_undo 36 = .ok (.istore_n 1, 1) := by decide +kernel
theorem dX4_undo_37 : decode cX4_undo 37 = .ok (.iload_n 1, 1) := by decide +kernel
theorem dX4_undo_38 : decode cX4_undo 38 = .ok (.bipush 81, 2) := by decide +kernel
theorem dX4_undo_40 : decode cX4_undo 40 = .ok (.if_icmp .ge 29, 3) := by decide +kernel
theorem dX4_undo_43 : decode cX4_undo 43 = .ok (.aload_n 0, 1) := by decide +kernel
theorem dX4_undo_44 : decode cX4_undo 44 = .ok (.getfield 7, 3) := by decide +kernel
theorem dX4_undo_47 : decode cX4_undo 47 = .ok (.iload_n 1, 1) := by decide +kernel
theorem dX4_undo_48 : decode cX4_undo 48 = .ok (.aload_n 0, 1) := by decide +kernel
theorem dX4_undo_49 : decode cX4_undo 49 = .ok (.getfield 13, 3) := by decide +kernel
theorem dX4_undo_52 : decode cX4_undo 52 = .ok (.aload_n 0, 1) := by decide +kernel
theorem dX4_undo_53 : decode cX4_undo 53 = .ok (.getfield 40, 3) := by decide +kernel
theorem dX4_undo_56 : decode cX4_undo 56 = .ok (.bipush 81, 2) := by decide +kernel
theorem dX4_undo_58 : decode cX4_undo 58 = .ok (.imul, 1) := by decide +kernel
theorem dX4_undo_59 : decode cX4_undo 59 = .ok (.iload_n 1, 1) := by decide +kernel
theorem dX4_undo_60 : decode cX4_undo 60 = .ok (.iadd, 1) := by decide +kernel
theorem dX4_undo_61 : decode cX4_undo 61 = .ok (.iaload, 1) := by decide +kernel
theorem dX4_undo_62 : decode cX4_undo 62 = .ok (.iastore, 1) := by decide +kernel
theorem dX4_undo_63 : decode cX4_undo 63 = .ok (.iinc 1 1, 3) := by decide +kernel
theorem dX4_undo_66 : decode cX4_undo 66 = .ok (.goto (-29), 3) := by decide +kernel
theorem dX4_undo_69 : decode cX4_undo 69 = .ok (.aload_n 0, 1) := by decide +kernel
theorem dX4_undo_70 : decode cX4_undo 70 = .ok (.getfield 40, 3) := by decide +kernel
theorem dX4_undo_73 : decode cX4_undo 73 = .ok (.ireturn, 1) := by decide +kernel
set_option maxRecDepth 20000 in
theorem ggX4_isTold_X4_of : GoodIn wsX4_isTold wsX4_of := goodIn_r _ [5, 6, 7, 8, 9, 10, 11, 12, 13, 14, 15, 16, 17, 18, 19, 20] (by decide +kernel) (by decide +kernel)
set_option maxRecDepth 20000 in
theorem gX4_isTold_X4_of : GoodIn wsX4_isTold (wsV RX4 43 RX4 yX4_of wsX4_of) := goodIn_app (goodIn_of _ (by decide +kernel)) ggX4_isTold_X4_of
theorem dX4_isTold_0 : decode cX4_isTold 0 = .ok (.iload_n 2, 1) := by decide +kernel
theorem dX4_isTold_1 : decode cX4_isTold 1 = .ok (.aload_n 0, 1) := by decide +kernel
theorem dX4_isTold_2 : decode cX4_isTold 2 = .ok (.iload_n 1, 1) := by decide +kernel
theorem dX4_isTold_3 : decode cX4_isTold 3 = .ok (.iconst 1, 1) := by decide +kernel
theorem dX4_isTold_4 : decode cX4_isTold 4 = .ok (.invokevirtual 43, 3) := by decide +kernel
theorem dX4_isTold_7 : decode cX4_isTold 7 = .ok (.ishr, 1) := by decide +kernel
theorem dX4_isTold_8 : decode cX4_isTold 8 = .ok (.iconst 1, 1) := by decide +kernel
theorem dX4_isTold_9 : decode cX4_isTold 9 = .ok (.iand, 1) := by decide +kernel
theorem dX4_isTold_10 : decode cX4_isTold 10 = .ok (.iconst 1, 1) := by decide +kernel
theorem dX4_isTold_11 : decode cX4_isTold 11 = .ok (.if_icmp .ne 7, 3) := by decide +kernel
theorem dX4_isTold_14 : decode cX4_isTold 14 = .ok (.iconst 1, 1) := by decide +kernel
theorem dX4_isTold_15 : decode cX4_isTold 15 = .ok (.goto 4, 3) := by decide +kernel
theorem dX4_isTold_18 : decode cX4_isTold 18 = .ok (.iconst 0, 1) := by decide +kernel
theorem dX4_isTold_19 : decode cX4_isTold 19 = .ok (.ireturn, 1) := by decide +kernel
set_option maxRecDepth 20000 in
theorem ggX4_closesNow_X4_of : GoodIn wsX4_closesNow wsX4_of := goodIn_r _ [5, 6, 7, 8, 9, 10, 11, 12, 13, 14, 15, 16, 17, 18, 19, 20] (by decide +kernel) (by decide +kernel)
set_option maxRecDepth 20000 in
theorem gX4_closesNow_X4_of : GoodIn wsX4_closesNow (wsV RX4 43 RX4 yX4_of wsX4_of) := goodIn_app (goodIn_of _ (by decide +kernel)) ggX4_closesNow_X4_of
theorem dX4_closesNow_0 : decode cX4_closesNow 0 = .ok (.aload_n 0, 1) := by decide +kernel
theorem dX4_closesNow_1 : decode cX4_closesNow 1 = .ok (.iload_n 1, 1) := by decide +kernel
theorem dX4_closesNow_2 : decode cX4_closesNow 2 = .ok (.iconst 0, 1) := by decide +kernel
theorem dX4_closesNow_3 : decode cX4_closesNow 3 = .ok (.invokevirtual 43, 3) := by decide +kernel
theorem dX4_closesNow_6 : decode cX4_closesNow 6 = .ok (.iconst 2, 1) := by decide +kernel
theorem dX4_closesNow_7 : decode cX4_closesNow 7 = .ok (.if_icmp .ne 32, 3) := by decide +kernel
theorem dX4_closesNow_10 : decode cX4_closesNow 10 = .ok (.aload_n 0, 1) := by decide +kernel
theorem dX4_closesNow_11 : decode cX4_closesNow 11 = .ok (.iload_n 1, 1) := by decide +kernel
theorem dX4_closesNow_12 : decode cX4_closesNow 12 = .ok (.iconst 4, 1) := by decide +kernel
theorem dX4_closesNow_13 : decode cX4_closesNow 13 = .ok (.invokevirtual 43, 3) := by decide +kernel
theorem dX4_closesNow_16 : decode cX4_closesNow 16 = .ok (.aload_n 0, 1) := by decide +kernel
theorem dX4_closesNow_17 : decode cX4_closesNow 17 = .ok (.iload_n 1, 1) := by decide +kernel
theorem dX4_closesNow_18 : decode cX4_closesNow 18 = .ok (.iconst 3, 1) := by decide +kernel
theorem dX4_closesNow_19 : decode cX4_closesNow 19 = .ok (.invokevirtual 43, 3) := by decide +kernel
theorem dX4_closesNow_22 : decode cX4_closesNow 22 = .ok (.if_icmp .lt 17, 3) := by decide +kernel
theorem dX4_closesNow_25 : decode cX4_closesNow 25 = .ok (.aload_n 0, 1) := by decide +kernel
theorem dX4_closesNow_26 : decode cX4_closesNow 26 = .ok (.iload_n 1, 1) := by decide +kernel
theorem dX4_closesNow_27 : decode cX4_closesNow 27 = .ok (.iconst 4, 1) := by decide +kernel
theorem dX4_closesNow_28 : decode cX4_closesNow 28 = .ok (.invokevirtual 43, 3) := by decide +kernel
theorem dX4_closesNow_31 : decode cX4_closesNow 31 = .ok (.iconst (-1), 1) := by decide +kernel
theorem dX4_closesNow_32 : decode cX4_closesNow 32 = .ok (.if_icmp .eq 7, 3) := by decide +kernel
theorem dX4_closesNow_35 : decode cX4_closesNow 35 = .ok (.iconst 1, 1) := by decide +kernel
theorem dX4_closesNow_36 : decode cX4_closesNow 36 = .ok (.goto 4, 3) := by decide +kernel
theorem dX4_closesNow_39 : decode cX4_closesNow 39 = .ok (.iconst 0, 1) := by decide +kernel
theorem dX4_closesNow_40 : decode cX4_closesNow 40 = .ok (.ireturn, 1) := by decide +kernel
set_option maxRecDepth 20000 in
theorem ggX4_isClosed_X4_closesNow : GoodIn wsX4_isClosed wsX4_closesNow := goodIn_r _ [6, 7, 8, 9, 5, 10, 1, 15, 16, 17, 18, 19, 20, 21, 22, 23, 24, 25, 26, 27, 28] (by decide +kernel) (by decide +kernel)
set_option maxRecDepth 20000 in
theorem gX4_isClosed_X4_closesNow : GoodIn wsX4_isClosed (wsV RX4 47 RX4 yX4_closesNow wsX4_closesNow) := goodIn_app (goodIn_of _ (by decide +kernel)) ggX4_isClosed_X4_closesNow
set_option maxRecDepth 20000 in
theorem ggX4_isClosed_X4_of : GoodIn wsX4_isClosed wsX4_of := goodIn_r _ [10, 1, 15, 16, 17, 18, 19, 20, 21, 22, 23, 24, 25, 26, 27, 28] (by decide +kernel) (by decide +kernel)
set_option maxRecDepth 20000 in
theorem gX4_isClosed_X4_of : GoodIn wsX4_isClosed (wsV RX4 43 RX4 yX4_of wsX4_of) := goodIn_app (goodIn_of _ (by decide +kernel)) ggX4_isClosed_X4_of
set_option maxRecDepth 20000 in
theorem ggX4_isClosed_X4_isTold : GoodIn wsX4_isClosed wsX4_isTold := goodIn_r _ [14, 7, 8, 9, 5, 10, 1, 15, 16, 17, 18, 19, 20, 21, 22, 23, 24, 25, 26, 27, 28] (by decide +kernel) (by decide +kernel)
set_option maxRecDepth 20000 in
theorem gX4_isClosed_X4_isTold : GoodIn wsX4_isClosed (wsV RX4 51 RX4 yX4_isTold wsX4_isTold) := goodIn_app (goodIn_of _ (by decide +kernel)) ggX4_isClosed_X4_isTold
theorem dX4_isClosed_0 : decode cX4_isClosed 0 = .ok (.iconst 0, 1) := by decide +kernel
theorem dX4_isClosed_1 : decode cX4_isClosed 1 = .ok (.istore_n 3, 1) := by decide +kernel
theorem dX4_isClosed_2 : decode cX4_isClosed 2 = .ok (.iconst 0, 1) := by decide +kernel
theorem dX4_isClosed_3 : decode cX4_isClosed 3 = .ok (.istore 4, 2) := by decide +kernel
theorem dX4_isClosed_5 : decode cX4_isClosed 5 = .ok (.iload 4, 2) := by decide +kernel
theorem dX4_isClosed_7 : decode cX4_isClosed 7 = .ok (.aload_n 0, 1) := by decide +kernel
theorem dX4_isClosed_8 : decode cX4_isClosed 8 = .ok (.getfield 7, 3) := by decide +kernel
theorem dX4_isClosed_11 : decode cX4_isClosed 11 = .ok (.iconst 0, 1) := by decide +kernel
theorem dX4_isClosed_12 : decode cX4_isClosed 12 = .ok (.iaload, 1) := by decide +kernel
theorem dX4_isClosed_13 : decode cX4_isClosed 13 = .ok (.if_icmp .ge 49, 3) := by decide +kernel
theorem dX4_isClosed_16 : decode cX4_isClosed 16 = .ok (.iload_n 3, 1) := by decide +kernel
theorem dX4_isClosed_17 : decode cX4_isClosed 17 = .ok (.ifCond .ne 33, 3) := by decide +kernel
theorem dX4_isClosed_20 : decode cX4_isClosed 20 = .ok (.aload_n 0, 1) := by decide +kernel
theorem dX4_isClosed_21 : decode cX4_isClosed 21 = .ok (.iload 4, 2) := by decide +kernel
theorem dX4_isClosed_23 : decode cX4_isClosed 23 = .ok (.invokevirtual 47, 3) := by decide +kernel
theorem dX4_isClosed_26 : decode cX4_isClosed 26 = .ok (.ifCond .eq 28, 3) := by decide +kernel
theorem dX4_isClosed_29 : decode cX4_isClosed 29 = .ok (.aload_n 0, 1) := by decide +kernel
theorem dX4_isClosed_30 : decode cX4_isClosed 30 = .ok (.iload 4, 2) := by decide +kernel
theorem dX4_isClosed_32 : decode cX4_isClosed 32 = .ok (.iconst 2, 1) := by decide +kernel
theorem dX4_isClosed_33 : decode cX4_isClosed 33 = .ok (.invokevirtual 43, 3) := by decide +kernel
theorem dX4_isClosed_36 : decode cX4_isClosed 36 = .ok (.iload_n 1, 1) := by decide +kernel
theorem dX4_isClosed_37 : decode cX4_isClosed 37 = .ok (.if_icmp .ne 17, 3) := by decide +kernel
theorem dX4_isClosed_40 : decode cX4_isClosed 40 = .ok (.aload_n 0, 1) := by decide +kernel
theorem dX4_isClosed_41 : decode cX4_isClosed 41 = .ok (.iload 4, 2) := by decide +kernel
theorem dX4_isClosed_43 : decode cX4_isClosed 43 = .ok (.iload_n 2, 1) := by decide +kernel
theorem dX4_isClosed_44 : decode cX4_isClosed 44 = .ok (.invokevirtual 51, 3) := by decide +kernel
theorem dX4_isClosed_47 : decode cX4_isClosed 47 = .ok (.ifCond .eq 7, 3) := by decide +kernel
theorem dX4_isClosed_50 : decode cX4_isClosed 50 = .ok (.iconst 1, 1) := by decide +kernel
theorem dX4_isClosed_51 : decode cX4_isClosed 51 = .ok (.goto 4, 3) := by decide +kernel
theorem dX4_isClosed_54 : decode cX4_isClosed 54 = .ok (.iconst 0, 1) := by decide +kernel
theorem dX4_isClosed_55 : decode cX4_isClosed 55 = .ok (.istore_n 3, 1) := by decide +kernel
theorem dX4_isClosed_56 : decode cX4_isClosed 56 = .ok (.iinc 4 1, 3) := by decide +kernel
theorem dX4_isClosed_59 : decode cX4_isClosed 59 = .ok (.goto (-54), 3) := by decide +kernel
theorem dX4_isClosed_62 : decode cX4_isClosed 62 = .ok (.iload_n 3, 1) := by decide +kernel
theorem dX4_isClosed_63 : decode cX4_isClosed 63 = .ok (.ireturn, 1) := by decide +kernel
set_option maxRecDepth 20000 in
theorem ggX4_isOpened_X4_of : GoodIn wsX4_isOpened wsX4_of := goodIn_r _ [6, 1, 11, 12, 13, 14, 15, 16, 17, 18, 19, 20, 21, 22, 23, 24] (by decide +kernel) (by decide +kernel)
set_option maxRecDepth 20000 in
theorem gX4_isOpened_X4_of : GoodIn wsX4_isOpened (wsV RX4 43 RX4 yX4_of wsX4_of) := goodIn_app (goodIn_of _ (by decide +kernel)) ggX4_isOpened_X4_of
set_option maxRecDepth 20000 in
theorem ggX4_isOpened_X4_isTold : GoodIn wsX4_isOpened wsX4_isTold := goodIn_r _ [10, 2, 3, 4, 5, 6, 1, 11, 12, 13, 14, 15, 16, 17, 18, 19, 20, 21, 22, 23, 24] (by decide +kernel) (by decide +kernel)
set_option maxRecDepth 20000 in
theorem gX4_isOpened_X4_isTold : GoodIn wsX4_isOpened (wsV RX4 51 RX4 yX4_isTold wsX4_isTold) := goodIn_app (goodIn_of _ (by decide +kernel)) ggX4_isOpened_X4_isTold
theorem dX4_isOpened_0 : decode cX4_isOpened 0 = .ok (.iconst 0, 1) := by decide +kernel
theorem dX4_isOpened_1 : decode cX4_isOpened 1 = .ok (.istore_n 3, 1) := by decide +kernel
theorem dX4_isOpened_2 : decode cX4_isOpened 2 = .ok (.iconst 0, 1) := by decide +kernel
theorem dX4_isOpened_3 : decode cX4_isOpened 3 = .ok (.istore 4, 2) := by decide +kernel
theorem dX4_isOpened_5 : decode cX4_isOpened 5 = .ok (.iconst 0, 1) := by decide +kernel
theorem dX4_isOpened_6 : decode cX4_isOpened 6 = .ok (.istore 5, 2) := by decide +kernel
theorem dX4_isOpened_8 : decode cX4_isOpened 8 = .ok (.iload 5, 2) := by decide +kernel
theorem dX4_isOpened_10 : decode cX4_isOpened 10 = .ok (.aload_n 0, 1) := by decide +kernel
theorem dX4_isOpened_11 : decode cX4_isOpened 11 = .ok (.getfield 7, 3) := by decide +kernel
theorem dX4_isOpened_14 : decode cX4_isOpened 14 = .ok (.iconst 0, 1) := by decide +kernel
theorem dX4_isOpened_15 : decode cX4_isOpened 15 = .ok (.iaload, 1) := by decide +kernel
theorem dX4_isOpened_16 : decode cX4_isOpened 16 = .ok (.if_icmp .ge 65, 3) := by decide +kernel
theorem dX4_isOpened_19 : decode cX4_isOpened 19 = .ok (.aload_n 0, 1) := by decide +kernel
theorem dX4_isOpened_20 : decode cX4_isOpened 20 = .ok (.iload 5, 2) := by decide +kernel
theorem dX4_isOpened_22 : decode cX4_isOpened 22 = .ok (.iconst 0, 1) := by decide +kernel
theorem dX4_isOpened_23 : decode cX4_isOpened 23 = .ok (.invokevirtual 43, 3) := by decide +kernel
theorem dX4_isOpened_26 : decode cX4_isOpened 26 = .ok (.iconst 1, 1) := by decide +kernel
theorem dX4_isOpened_27 : decode cX4_isOpened 27 = .ok (.if_icmp .ne 48, 3) := by decide +kernel
theorem dX4_isOpened_30 : decode cX4_isOpened 30 = .ok (.aload_n 0, 1) := by decide +kernel
theorem dX4_isOpened_31 : decode cX4_isOpened 31 = .ok (.iload 5, 2) := by decide +kernel
theorem dX4_isOpened_33 : decode cX4_isOpened 33 = .ok (.iconst 2, 1) := by decide +kernel
theorem dX4_isOpened_34 : decode cX4_isOpened 34 = .ok (.invokevirtual 43, 3) := by decide +kernel
theorem dX4_isOpened_37 : decode cX4_isOpened 37 = .ok (.iload_n 1, 1) := by decide +kernel
theorem dX4_isOpened_38 : decode cX4_isOpened 38 = .ok (.if_icmp .ne 37, 3) := by decide +kernel
theorem dX4_isOpened_41 : decode cX4_isOpened 41 = .ok (.iconst 1, 1) := by decide +kernel
theorem dX4_isOpened_42 : decode cX4_isOpened 42 = .ok (.istore 4, 2) := by decide +kernel
theorem dX4_isOpened_44 : decode cX4_isOpened 44 = .ok (.iload_n 3, 1) := by decide +kernel
theorem dX4_isOpened_45 : decode cX4_isOpened 45 = .ok (.ifCond .ne 24, 3) := by decide +kernel
theorem dX4_isOpened_48 : decode cX4_isOpened 48 = .ok (.aload_n 0, 1) := by decide +kernel
theorem dX4_isOpened_49 : decode cX4_isOpened 49 = .ok (.iload 5, 2) := by decide +kernel
theorem dX4_isOpened_51 : decode cX4_isOpened 51 = .ok (.iconst 4, 1) := by decide +kernel
theorem dX4_isOpened_52 : decode cX4_isOpened 52 = .ok (.invokevirtual 43, 3) := by decide +kernel
theorem dX4_isOpened_55 : decode cX4_isOpened 55 = .ok (.iconst 1, 1) := by decide +kernel
theorem dX4_isOpened_56 : decode cX4_isOpened 56 = .ok (.if_icmp .ne 17, 3) := by decide +kernel
theorem dX4_isOpened_59 : decode cX4_isOpened 59 = .ok (.aload_n 0, 1) := by decide +kernel
theorem dX4_isOpened_60 : decode cX4_isOpened 60 = .ok (.iload 5, 2) := by decide +kernel
theorem dX4_isOpened_62 : decode cX4_isOpened 62 = .ok (.iload_n 2, 1) := by decide +kernel
theorem dX4_isOpened_63 : decode cX4_isOpened 63 = .ok (.invokevirtual 51, 3) := by decide +kernel
theorem dX4_isOpened_66 : decode cX4_isOpened 66 = .ok (.ifCond .eq 7, 3) := by decide +kernel
theorem dX4_isOpened_69 : decode cX4_isOpened 69 = .ok (.iconst 1, 1) := by decide +kernel
theorem dX4_isOpened_70 : decode cX4_isOpened 70 = .ok (.goto 4, 3) := by decide +kernel
theorem dX4_isOpened_73 : decode cX4_isOpened 73 = .ok (.iconst 0, 1) := by decide +kernel
theorem dX4_isOpened_74 : decode cX4_isOpened 74 = .ok (.istore_n 3, 1) := by decide +kernel
theorem dX4_isOpened_75 : decode cX4_isOpened 75 = .ok (.iinc 5 1, 3) := by decide +kernel
theorem dX4_isOpened_78 : decode cX4_isOpened 78 = .ok (.goto (-70), 3) := by decide +kernel
theorem dX4_isOpened_81 : decode cX4_isOpened 81 = .ok (.iload_n 3, 1) := by decide +kernel
theorem dX4_isOpened_82 : decode cX4_isOpened 82 = .ok (.ifCond .ne 8, 3) := by decide +kernel
theorem dX4_isOpened_85 : decode cX4_isOpened 85 = .ok (.iload 4, 2) := by decide +kernel
theorem dX4_isOpened_87 : decode cX4_isOpened 87 = .ok (.ifCond .ne 7, 3) := by decide +kernel
theorem dX4_isOpened_90 : decode cX4_isOpened 90 = .ok (.iconst 1, 1) := by decide +kernel
theorem dX4_isOpened_91 : decode cX4_isOpened 91 = .ok (.goto 4, 3) := by decide +kernel
theorem dX4_isOpened_94 : decode cX4_isOpened 94 = .ok (.iconst 0, 1) := by decide +kernel
theorem dX4_isOpened_95 : decode cX4_isOpened 95 = .ok (.ireturn, 1) := by decide +kernel
set_option maxRecDepth 20000 in
theorem ggX4_open_X4_isOpened : GoodIn wsX4_open wsX4_isOpened := goodIn_r _ [5, 6, 7, 8, 9, 4, 10, 11, 12, 13, 14, 23, 24, 25, 26, 27, 28, 29, 30, 31, 32, 33, 34, 35, 36] (by decide +kernel) (by decide +kernel)
set_option maxRecDepth 20000 in
theorem gX4_open_X4_isOpened : GoodIn wsX4_open (wsV RX4 55 RX4 yX4_isOpened wsX4_isOpened) := goodIn_app (goodIn_of _ (by decide +kernel)) ggX4_open_X4_isOpened
set_option maxRecDepth 20000 in
theorem ggX4_open_X4_isClosed : GoodIn wsX4_open wsX4_isClosed := goodIn_r _ [18, 6, 19, 20, 21, 4, 22, 7, 8, 9, 10, 11, 12, 13, 14, 23, 24, 25, 26, 27, 28, 29, 30, 31, 32, 33, 34, 35, 36] (by decide +kernel) (by decide +kernel)
set_option maxRecDepth 20000 in
theorem gX4_open_X4_isClosed : GoodIn wsX4_open (wsV RX4 58 RX4 yX4_isClosed wsX4_isClosed) := goodIn_app (goodIn_of _ (by decide +kernel)) ggX4_open_X4_isClosed
theorem dX4_open_0 : decode cX4_open 0 = .ok (.iconst 1, 1) := by decide +kernel
theorem dX4_open_1 : decode cX4_open 1 = .ok (.istore_n 1, 1) := by decide +kernel
theorem dX4_open_2 : decode cX4_open 2 = .ok (.iconst 1, 1) := by decide +kernel
theorem dX4_open_3 : decode cX4_open 3 = .ok (.istore_n 2, 1) := by decide +kernel
theorem dX4_open_4 : decode cX4_open 4 = .ok (.iload_n 2, 1) := by decide +kernel
theorem dX4_open_5 : decode cX4_open 5 = .ok (.iconst 5, 1) := by decide +kernel
theorem dX4_open_6 : decode cX4_open 6 = .ok (.if_icmp .ge 37, 3) := by decide +kernel
theorem dX4_open_9 : decode cX4_open 9 = .ok (.iload_n 1, 1) := by decide +kernel
theorem dX4_open_10 : decode cX4_open 10 = .ok (.aload_n 0, 1) := by decide +kernel
theorem dX4_open_11 : decode cX4_open 11 = .ok (.iload_n 2, 1) := by decide +kernel
theorem dX4_open_12 : decode cX4_open 12 = .ok (.iload_n 1, 1) := by decide +kernel
theorem dX4_open_13 : decode cX4_open 13 = .ok (.invokevirtual 55, 3) := by decide +kernel
theorem dX4_open_16 : decode cX4_open 16 = .ok (.ifCond .eq 18, 3) := by decide +kernel
theorem dX4_open_19 : decode cX4_open 19 = .ok (.aload_n 0, 1) := by decide +kernel
theorem dX4_open_20 : decode cX4_open 20 = .ok (.iload_n 2, 1) := by decide +kernel
theorem dX4_open_21 : decode cX4_open 21 = .ok (.iload_n 1, 1) := by decide +kernel
theorem dX4_open_22 : decode cX4_open 22 = .ok (.invokevirtual 58, 3) := by decide +kernel
theorem dX4_open_25 : decode cX4_open 25 = .ok (.ifCond .ne 9, 3) := by decide +kernel
theorem dX4_open_28 : decode cX4_open 28 = .ok (.iconst 1, 1) := by decide +kernel
theorem dX4_open_29 : decode cX4_open 29 = .ok (.iload_n 2, 1) := by decide +kernel
theorem dX4_open_30 : decode cX4_open 30 = .ok (.ishl, 1) := by decide +kernel
theorem dX4_open_31 : decode cX4_open 31 = .ok (.goto 4, 3) := by decide +kernel
theorem dX4_open_34 : decode cX4_open 34 = .ok (.iconst 0, 1) := by decide +kernel
theorem dX4_open_35 : decode cX4_open 35 = .ok (.ior, 1) := by decide +kernel
theorem dX4_open_36 : decode cX4_open 36 = .ok (.istore_n 1, 1) := by decide +kernel
theorem dX4_open_37 : decode cX4_open 37 = .ok (.iinc 2 1, 3) := by decide +kernel
