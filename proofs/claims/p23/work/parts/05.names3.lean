set_option maxRecDepth 20000 in
theorem ggX0_valueOf_X3_put : GoodIn wsX0_valueOf wsX3_put := goodIn_r _ [35] (by decide +kernel) (by decide +kernel)
set_option maxRecDepth 20000 in
theorem gX0_valueOf_X3_put_n38 : GoodIn wsX0_valueOf (wsX3_put) := ggX0_valueOf_X3_put
theorem dX0_valueOf_0 : decode cX0_valueOf 0 = .ok (.iconst 0, 1) := by decide +kernel
theorem dX0_valueOf_1 : decode cX0_valueOf 1 = .ok (.istore_n 3, 1) := by decide +kernel
theorem dX0_valueOf_2 : decode cX0_valueOf 2 = .ok (.iload_n 3, 1) := by decide +kernel
theorem dX0_valueOf_3 : decode cX0_valueOf 3 = .ok (.iload_n 1, 1) := by decide +kernel
theorem dX0_valueOf_4 : decode cX0_valueOf 4 = .ok (.if_icmp .gt 51, 3) := by decide +kernel
theorem dX0_valueOf_7 : decode cX0_valueOf 7 = .ok (.iload_n 3, 1) := by decide +kernel
theorem dX0_valueOf_8 : decode cX0_valueOf 8 = .ok (.aload_n 0, 1) := by decide +kernel
theorem dX0_valueOf_9 : decode cX0_valueOf 9 = .ok (.getfield 30, 3) := by decide +kernel
theorem dX0_valueOf_12 : decode cX0_valueOf 12 = .ok (.if_icmp .ge 43, 3) := by decide +kernel
theorem dX0_valueOf_15 : decode cX0_valueOf 15 = .ok (.aload_n 0, 1) := by decide +kernel
theorem dX0_valueOf_16 : decode cX0_valueOf 16 = .ok (.getfield 27, 3) := by decide +kernel
theorem dX0_valueOf_19 : decode cX0_valueOf 19 = .ok (.iload_n 3, 1) := by decide +kernel
theorem dX0_valueOf_20 : decode cX0_valueOf 20 = .ok (.aload_n 0, 1) := by decide +kernel
theorem dX0_valueOf_21 : decode cX0_valueOf 21 = .ok (.getfield 9, 3) := by decide +kernel
theorem dX0_valueOf_24 : decode cX0_valueOf 24 = .ok (.iload_n 3, 1) := by decide +kernel
theorem dX0_valueOf_25 : decode cX0_valueOf 25 = .ok (.invokestatic 34, 3) := by decide +kernel
theorem dX0_valueOf_28 : decode cX0_valueOf 28 = .ok (.iconst 3, 1) := by decide +kernel
theorem dX0_valueOf_29 : decode cX0_valueOf 29 = .ok (.if_icmp .ne 12, 3) := by decide +kernel
theorem dX0_valueOf_32 : decode cX0_valueOf 32 = .ok (.aload_n 0, 1) := by decide +kernel
theorem dX0_valueOf_33 : decode cX0_valueOf 33 = .ok (.iload_n 3, 1) := by decide +kernel
theorem dX0_valueOf_34 : decode cX0_valueOf 34 = .ok (.iload_n 2, 1) := by decide +kernel
theorem dX0_valueOf_35 : decode cX0_valueOf 35 = .ok (.invokevirtual 89, 3) := by decide +kernel
theorem dX0_valueOf_38 : decode cX0_valueOf 38 = .ok (.goto 8, 3) := by decide +kernel
theorem dX0_valueOf_41 : decode cX0_valueOf 41 = .ok (.aload_n 0, 1) := by decide +kernel
theorem dX0_valueOf_42 : decode cX0_valueOf 42 = .ok (.iload_n 3, 1) := by decide +kernel
theorem dX0_valueOf_43 : decode cX0_valueOf 43 = .ok (.invokevirtual 93, 3) := by decide +kernel
theorem dX0_valueOf_46 : decode cX0_valueOf 46 = .ok (.invokestatic 38, 3) := by decide +kernel
theorem dX0_valueOf_49 : decode cX0_valueOf 49 = .ok (.iinc 3 1, 3) := by decide +kernel
theorem dX0_valueOf_52 : decode cX0_valueOf 52 = .ok (.goto (-50), 3) := by decide +kernel
theorem dX0_valueOf_55 : decode cX0_valueOf 55 = .ok (.aload_n 0, 1) := by decide +kernel
theorem dX0_valueOf_56 : decode cX0_valueOf 56 = .ok (.getfield 27, 3) := by decide +kernel
theorem dX0_valueOf_59 : decode cX0_valueOf 59 = .ok (.iload_n 1, 1) := by decide +kernel
theorem dX0_valueOf_60 : decode cX0_valueOf 60 = .ok (.invokestatic 34, 3) := by decide +kernel
theorem dX0_valueOf_63 : decode cX0_valueOf 63 = .ok (.ireturn, 1) := by decide +kernel
set_option maxRecDepth 20000 in
theorem ggX0_ownValue_X3_at : GoodIn wsX0_ownValue wsX3_at := goodIn_r _ [5] (by decide +kernel) (by decide +kernel)
set_option maxRecDepth 20000 in
theorem gX0_ownValue_X3_at_n34 : GoodIn wsX0_ownValue (wsX3_at) := ggX0_ownValue_X3_at
set_option maxRecDepth 20000 in
theorem ggX0_ownValue_X0_isEmpty : GoodIn wsX0_ownValue wsX0_isEmpty := goodIn_r _ [10, 1, 2, 3, 4, 5, 11, 12, 13, 14, 15, 16, 17] (by decide +kernel) (by decide +kernel)
set_option maxRecDepth 20000 in
theorem gX0_ownValue_X0_isEmpty : GoodIn wsX0_ownValue (wsV RX0 66 RX0 yX0_isEmpty wsX0_isEmpty) := goodIn_app (goodIn_of _ (by decide +kernel)) ggX0_ownValue_X0_isEmpty
theorem dX0_ownValue_0 : decode cX0_ownValue 0 = .ok (.aload_n 0, 1) := by decide +kernel
theorem dX0_ownValue_1 : decode cX0_ownValue 1 = .ok (.getfield 9, 3) := by decide +kernel
theorem dX0_ownValue_4 : decode cX0_ownValue 4 = .ok (.iload_n 1, 1) := by decide +kernel
theorem dX0_ownValue_5 : decode cX0_ownValue 5 = .ok (.invokestatic 34, 3) := by decide +kernel
theorem dX0_ownValue_8 : decode cX0_ownValue 8 = .ok (.ifCond .eq 5, 3) := by decide +kernel
theorem dX0_ownValue_11 : decode cX0_ownValue 11 = .ok (.iconst (-1), 1) := by decide +kernel
theorem dX0_ownValue_12 : decode cX0_ownValue 12 = .ok (.ireturn, 1) := by decide +kernel
theorem dX0_ownValue_13 : decode cX0_ownValue 13 = .ok (.aload_n 0, 1) := by decide +kernel
theorem dX0_ownValue_14 : decode cX0_ownValue 14 = .ok (.iload_n 1, 1) := by decide +kernel
theorem dX0_ownValue_15 : decode cX0_ownValue 15 = .ok (.invokevirtual 66, 3) := by decide +kernel
theorem dX0_ownValue_18 : decode cX0_ownValue 18 = .ok (.ifCond .eq 7, 3) := by decide +kernel
theorem dX0_ownValue_21 : decode cX0_ownValue 21 = .ok (.iconst 0, 1) := by decide +kernel
theorem dX0_ownValue_22 : decode cX0_ownValue 22 = .ok (.goto 11, 3) := by decide +kernel
theorem dX0_ownValue_25 : decode cX0_ownValue 25 = .ok (.aload_n 0, 1) := by decide +kernel
theorem dX0_ownValue_26 : decode cX0_ownValue 26 = .ok (.getfield 24, 3) := by decide +kernel
theorem dX0_ownValue_29 : decode cX0_ownValue 29 = .ok (.iload_n 1, 1) := by decide +kernel
theorem dX0_ownValue_30 : decode cX0_ownValue 30 = .ok (.invokestatic 34, 3) := by decide +kernel
theorem dX0_ownValue_33 : decode cX0_ownValue 33 = .ok (.ireturn, 1) := by decide +kernel
set_option maxRecDepth 20000 in
theorem ggX0_sumOf_X3_at : GoodIn wsX0_sumOf wsX3_at := goodIn_r _ [10] (by decide +kernel) (by decide +kernel)
set_option maxRecDepth 20000 in
theorem gX0_sumOf_X3_at_n34 : GoodIn wsX0_sumOf (wsX3_at) := ggX0_sumOf_X3_at
set_option maxRecDepth 20000 in
theorem ggX0_sumOf_X3_isInMask : GoodIn wsX0_sumOf wsX3_isInMask := goodIn_r _ [12] (by decide +kernel) (by decide +kernel)
set_option maxRecDepth 20000 in
theorem gX0_sumOf_X3_isInMask_n70 : GoodIn wsX0_sumOf (wsX3_isInMask) := ggX0_sumOf_X3_isInMask
set_option maxRecDepth 20000 in
theorem ggX0_sumOf_X0_isOpen : GoodIn wsX0_sumOf wsX0_isOpen := goodIn_r _ [17, 18, 8, 9, 10, 11, 12, 19, 20, 21, 22, 23, 24, 25] (by decide +kernel) (by decide +kernel)
set_option maxRecDepth 20000 in
theorem gX0_sumOf_X0_isOpen : GoodIn wsX0_sumOf (wsV RX0 63 RX0 yX0_isOpen wsX0_isOpen) := goodIn_app (goodIn_of _ (by decide +kernel)) ggX0_sumOf_X0_isOpen
theorem dX0_sumOf_0 : decode cX0_sumOf 0 = .ok (.iconst 0, 1) := by decide +kernel
theorem dX0_sumOf_1 : decode cX0_sumOf 1 = .ok (.istore_n 3, 1) := by decide +kernel
theorem dX0_sumOf_2 : decode cX0_sumOf 2 = .ok (.iconst 0, 1) := by decide +kernel
theorem dX0_sumOf_3 : decode cX0_sumOf 3 = .ok (.istore 4, 2) := by decide +kernel
theorem dX0_sumOf_5 : decode cX0_sumOf 5 = .ok (.iload 4, 2) := by decide +kernel
theorem dX0_sumOf_7 : decode cX0_sumOf 7 = .ok (.iload_n 1, 1) := by decide +kernel
theorem dX0_sumOf_8 : decode cX0_sumOf 8 = .ok (.if_icmp .ge 47, 3) := by decide +kernel
theorem dX0_sumOf_11 : decode cX0_sumOf 11 = .ok (.iload 4, 2) := by decide +kernel
theorem dX0_sumOf_13 : decode cX0_sumOf 13 = .ok (.aload_n 0, 1) := by decide +kernel
theorem dX0_sumOf_14 : decode cX0_sumOf 14 = .ok (.getfield 18, 3) := by decide +kernel
theorem dX0_sumOf_17 : decode cX0_sumOf 17 = .ok (.iload_n 1, 1) := by decide +kernel
theorem dX0_sumOf_18 : decode cX0_sumOf 18 = .ok (.invokestatic 34, 3) := by decide +kernel
theorem dX0_sumOf_21 : decode cX0_sumOf 21 = .ok (.invokestatic 70, 3) := by decide +kernel
theorem dX0_sumOf_24 : decode cX0_sumOf 24 = .ok (.ifCond .eq 25, 3) := by decide +kernel
theorem dX0_sumOf_27 : decode cX0_sumOf 27 = .ok (.aload_n 0, 1) := by decide +kernel
theorem dX0_sumOf_28 : decode cX0_sumOf 28 = .ok (.iload 4, 2) := by decide +kernel
theorem dX0_sumOf_30 : decode cX0_sumOf 30 = .ok (.iload_n 2, 1) := by decide +kernel
theorem dX0_sumOf_31 : decode cX0_sumOf 31 = .ok (.invokevirtual 63, 3) := by decide +kernel
theorem dX0_sumOf_34 : decode cX0_sumOf 34 = .ok (.ifCond .eq 15, 3) := by decide +kernel
theorem dX0_sumOf_37 : decode cX0_sumOf 37 = .ok (.iload_n 3, 1) := by decide +kernel
theorem dX0_sumOf_38 : decode cX0_sumOf 38 = .ok (.aload_n 0, 1) := by decide +kernel
theorem dX0_sumOf_39 : decode cX0_sumOf 39 = .ok (.getfield 27, 3) := by decide +kernel
theorem dX0_sumOf_42 : decode cX0_sumOf 42 = .ok (.iload 4, 2) := by decide +kernel
theorem dX0_sumOf_44 : decode cX0_sumOf 44 = .ok (.invokestatic 34, 3) := by decide +kernel
theorem dX0_sumOf_47 : decode cX0_sumOf 47 = .ok (.iadd, 1) := by decide +kernel
theorem dX0_sumOf_48 : decode cX0_sumOf 48 = .ok (.istore_n 3, 1) := by decide +kernel
theorem dX0_sumOf_49 : decode cX0_sumOf 49 = .ok (.iinc 4 1, 3) := by decide +kernel
theorem dX0_sumOf_52 : decode cX0_sumOf 52 = .ok (.goto (-47), 3) := by decide +kernel
theorem dX0_sumOf_55 : decode cX0_sumOf 55 = .ok (.iload_n 3, 1) := by decide +kernel
theorem dX0_sumOf_56 : decode cX0_sumOf 56 = .ok (.ldc 96, 2) := by decide +kernel
theorem dX0_sumOf_58 : decode cX0_sumOf 58 = .ok (.invokestatic 97, 3) := by decide +kernel
theorem dX0_sumOf_61 : decode cX0_sumOf 61 = .ok (.ireturn, 1) := by decide +kernel
set_option maxRecDepth 20000 in
theorem ggX0_totalsOver_X3_at : GoodIn wsX0_totalsOver wsX3_at := goodIn_r _ [6] (by decide +kernel) (by decide +kernel)
set_option maxRecDepth 20000 in
theorem gX0_totalsOver_X3_at_n34 : GoodIn wsX0_totalsOver (wsX3_at) := ggX0_totalsOver_X3_at
set_option maxRecDepth 20000 in
theorem ggX0_totalsOver_X3_isInMask : GoodIn wsX0_totalsOver wsX3_isInMask := goodIn_r _ [8] (by decide +kernel) (by decide +kernel)
set_option maxRecDepth 20000 in
theorem gX0_totalsOver_X3_isInMask_n70 : GoodIn wsX0_totalsOver (wsX3_isInMask) := ggX0_totalsOver_X3_isInMask
set_option maxRecDepth 20000 in
theorem ggX0_totalsOver_J6_bitCount_0f7a4 : GoodIn wsX0_totalsOver wsJ6_bitCount_0f7a4 := goodIn_r _ [12, 13, 14, 15] (by decide +kernel) (by decide +kernel)
set_option maxRecDepth 20000 in
theorem gX0_totalsOver_J6_bitCount_0f7a4 : GoodIn wsX0_totalsOver (va_wsS RX0 102 yJ6_bitCount_0f7a4 wsJ6_bitCount_0f7a4) := goodIn_app (goodIn_of _ (by decide +kernel)) ggX0_totalsOver_J6_bitCount_0f7a4
theorem dX0_totalsOver_0 : decode cX0_totalsOver 0 = .ok (.iconst 0, 1) := by decide +kernel
theorem dX0_totalsOver_1 : decode cX0_totalsOver 1 = .ok (.istore_n 2, 1) := by decide +kernel
theorem dX0_totalsOver_2 : decode cX0_totalsOver 2 = .ok (.iload_n 1, 1) := by decide +kernel
theorem dX0_totalsOver_3 : decode cX0_totalsOver 3 = .ok (.iconst 1, 1) := by decide +kernel
theorem dX0_totalsOver_4 : decode cX0_totalsOver 4 = .ok (.iadd, 1) := by decide +kernel
theorem dX0_totalsOver_5 : decode cX0_totalsOver 5 = .ok (.istore_n 3, 1) := by decide +kernel
theorem dX0_totalsOver_6 : decode cX0_totalsOver 6 = .ok (.iload_n 3, 1) := by decide +kernel
theorem dX0_totalsOver_7 : decode cX0_totalsOver 7 = .ok (.aload_n 0, 1) := by decide +kernel
theorem dX0_totalsOver_8 : decode cX0_totalsOver 8 = .ok (.getfield 30, 3) := by decide +kernel
theorem dX0_totalsOver_11 : decode cX0_totalsOver 11 = .ok (.if_icmp .ge 65, 3) := by decide +kernel
theorem dX0_totalsOver_14 : decode cX0_totalsOver 14 = .ok (.aload_n 0, 1) := by decide +kernel
theorem dX0_totalsOver_15 : decode cX0_totalsOver 15 = .ok (.getfield 18, 3) := by decide +kernel
theorem dX0_totalsOver_18 : decode cX0_totalsOver 18 = .ok (.iload_n 3, 1) := by decide +kernel
theorem dX0_totalsOver_19 : decode cX0_totalsOver 19 = .ok (.invokestatic 34, 3) := by decide +kernel
theorem dX0_totalsOver_22 : decode cX0_totalsOver 22 = .ok (.istore 4, 2) := by decide +kernel
theorem dX0_totalsOver_24 : decode cX0_totalsOver 24 = .ok (.iload_n 1, 1) := by decide +kernel
theorem dX0_totalsOver_25 : decode cX0_totalsOver 25 = .ok (.iload 4, 2) := by decide +kernel
theorem dX0_totalsOver_27 : decode cX0_totalsOver 27 = .ok (.invokestatic 70, 3) := by decide +kernel
theorem dX0_totalsOver_30 : decode cX0_totalsOver 30 = .ok (.ifCond .ne 10, 3) := by decide +kernel
theorem dX0_totalsOver_33 : decode cX0_totalsOver 33 = .ok (.iload 4, 2) := by decide +kernel
theorem dX0_totalsOver_35 : decode cX0_totalsOver 35 = .ok (.iload_n 2, 1) := by decide +kernel
theorem dX0_totalsOver_36 : decode cX0_totalsOver 36 = .ok (.iand, 1) := by decide +kernel
theorem dX0_totalsOver_37 : decode cX0_totalsOver 37 = .ok (.ifCond .eq 7, 3) := by decide +kernel
theorem dX0_totalsOver_40 : decode cX0_totalsOver 40 = .ok (.iconst 1, 1) := by decide +kernel
theorem dX0_totalsOver_41 : decode cX0_totalsOver 41 = .ok (.goto 4, 3) := by decide +kernel
theorem dX0_totalsOver_44 : decode cX0_totalsOver 44 = .ok (.iconst 0, 1) := by decide +kernel
theorem dX0_totalsOver_45 : decode cX0_totalsOver 45 = .ok (.istore 5, 2) := by decide +kernel
theorem dX0_totalsOver_47 : decode cX0_totalsOver 47 = .ok (.aload_n 0, 1) := by decide +kernel
theorem dX0_totalsOver_48 : decode cX0_totalsOver 48 = .ok (.getfield 9, 3) := by decide +kernel
theorem dX0_totalsOver_51 : decode cX0_totalsOver 51 = .ok (.iload_n 3, 1) := by decide +kernel
theorem dX0_totalsOver_52 : decode cX0_totalsOver 52 = .ok (.invokestatic 34, 3) := by decide +kernel
theorem dX0_totalsOver_55 : decode cX0_totalsOver 55 = .ok (.iconst 3, 1) := by decide +kernel
theorem dX0_totalsOver_56 : decode cX0_totalsOver 56 = .ok (.if_icmp .ne 14, 3) := by decide +kernel
theorem dX0_totalsOver_59 : decode cX0_totalsOver 59 = .ok (.iload 5, 2) := by decide +kernel
theorem dX0_totalsOver_61 : decode cX0_totalsOver 61 = .ok (.ifCond .eq 9, 3) := by decide +kernel
theorem dX0_totalsOver_64 : decode cX0_totalsOver 64 = .ok (.iload_n 2, 1) := by decide +kernel
theorem dX0_totalsOver_65 : decode cX0_totalsOver 65 = .ok (.iconst 1, 1) := by decide +kernel
theorem dX0_totalsOver_66 : decode cX0_totalsOver 66 = .ok (.iload_n 3, 1) := by decide +kernel
theorem dX0_totalsOver_67 : decode cX0_totalsOver 67 = .ok (.ishl, 1) := by decide +kernel
theorem dX0_totalsOver_68 : decode cX0_totalsOver 68 = .ok (.ior, 1) := by decide +kernel
theorem dX0_totalsOver_69 : decode cX0_totalsOver 69 = .ok (.istore_n 2, 1) := by decide +kernel
theorem dX0_totalsOver_70 : decode cX0_totalsOver 70 = .ok (.iinc 3 1, 3) := by decide +kernel
theorem dX0_totalsOver_73 : decode cX0_totalsOver 73 = .ok (.goto (-67), 3) := by decide +kernel
theorem dX0_totalsOver_76 : decode cX0_totalsOver 76 = .ok (.iload_n 2, 1) := by decide +kernel
theorem dX0_totalsOver_77 : decode cX0_totalsOver 77 = .ok (.invokestatic 102, 3) := by decide +kernel
theorem dX0_totalsOver_80 : decode cX0_totalsOver 80 = .ok (.ireturn, 1) := by decide +kernel
set_option maxRecDepth 20000 in
theorem ggX1_init_X0_init : GoodIn wsX1_init wsX0_init := goodIn_r _ [9, 10, 2, 3, 11, 12, 13, 14, 15, 16, 17, 21, 22, 23, 24, 25, 26, 27] (by decide +kernel) (by decide +kernel)
set_option maxRecDepth 20000 in
theorem gX1_init_X0_init_n17 : GoodIn wsX1_init (wsX0_init) := ggX1_init_X0_init
theorem dX1_init_0 : decode cX1_init 0 = .ok (.aload_n 0, 1) := by decide +kernel
theorem dX1_init_1 : decode cX1_init 1 = .ok (.invokespecial 3, 3) := by decide +kernel
theorem dX1_init_4 : decode cX1_init 4 = .ok (.aload_n 0, 1) := by decide +kernel
theorem dX1_init_5 : decode cX1_init 5 = .ok (.bipush 6, 2) := by decide +kernel
theorem dX1_init_7 : decode cX1_init 7 = .ok (.anewarray 9, 3) := by decide +kernel
theorem dX1_init_10 : decode cX1_init 10 = .ok (.putfield 11, 3) := by decide +kernel
theorem dX1_init_13 : decode cX1_init 13 = .ok (.iconst 0, 1) := by decide +kernel
theorem dX1_init_14 : decode cX1_init 14 = .ok (.istore_n 1, 1) := by decide +kernel
theorem dX1_init_15 : decode cX1_init 15 = .ok (.iload_n 1, 1) := by decide +kernel
theorem dX1_init_16 : decode cX1_init 16 = .ok (.aload_n 0, 1) := by decide +kernel
theorem dX1_init_17 : decode cX1_init 17 = .ok (.getfield 11, 3) := by decide +kernel
theorem dX1_init_20 : decode cX1_init 20 = .ok (.arraylength, 1) := by decide +kernel
theorem dX1_init_21 : decode cX1_init 21 = .ok (.if_icmp .ge 22, 3) := by decide +kernel
theorem dX1_init_24 : decode cX1_init 24 = .ok (.aload_n 0, 1) := by decide +kernel
theorem dX1_init_25 : decode cX1_init 25 = .ok (.getfield 11, 3) := by decide +kernel
theorem dX1_init_28 : decode cX1_init 28 = .ok (.iload_n 1, 1) := by decide +kernel
theorem dX1_init_29 : decode cX1_init 29 = .ok (.new 9, 3) := by decide +kernel
theorem dX1_init_32 : decode cX1_init 32 = .ok (.dup, 1) := by decide +kernel
theorem dX1_init_33 : decode cX1_init 33 = .ok (.invokespecial 17, 3) := by decide +kernel
theorem dX1_init_36 : decode cX1_init 36 = .ok (.aastore, 1) := by decide +kernel
theorem dX1_init_37 : decode cX1_init 37 = .ok (.iinc 1 1, 3) := by decide +kernel
theorem dX1_init_40 : decode cX1_init 40 = .ok (.goto (-25), 3) := by decide +kernel
theorem dX1_init_43 : decode cX1_init 43 = .ok (.return_, 1) := by decide +kernel
theorem dX1_size_0 : decode cX1_size 0 = .ok (.aload_n 0, 1) := by decide +kernel
theorem dX1_size_1 : decode cX1_size 1 = .ok (.getfield 18, 3) := by decide +kernel
theorem dX1_size_4 : decode cX1_size 4 = .ok (.ireturn, 1) := by decide +kernel
set_option maxRecDepth 20000 in
theorem ggX1_save_X1_stateAt : GoodIn wsX1_save wsX1_stateAt := goodIn_r _ [11, 12, 28, 29, 30] (by decide +kernel) (by decide +kernel)
set_option maxRecDepth 20000 in
theorem gX1_save_X1_stateAt : GoodIn wsX1_save (wsV RX1 25 RX1 yX1_stateAt wsX1_stateAt) := goodIn_app (goodIn_of _ (by decide +kernel)) ggX1_save_X1_stateAt
set_option maxRecDepth 20000 in
theorem ggX1_save_X0_copyFrom : GoodIn wsX1_save wsX0_copyFrom := goodIn_r _ [16, 17, 18, 19, 20, 21, 22, 23, 24, 25, 26, 27, 31, 32, 33, 34, 35, 36, 37] (by decide +kernel) (by decide +kernel)
set_option maxRecDepth 20000 in
theorem gX1_save_X0_copyFrom_n29 : GoodIn wsX1_save (wsX0_copyFrom) := ggX1_save_X0_copyFrom
theorem dX1_save_0 : decode cX1_save 0 = .ok (.aload_n 0, 1) := by decide +kernel
theorem dX1_save_1 : decode cX1_save 1 = .ok (.aload_n 0, 1) := by decide +kernel
theorem dX1_save_2 : decode cX1_save 2 = .ok (.getfield 22, 3) := by decide +kernel
theorem dX1_save_5 : decode cX1_save 5 = .ok (.invokevirtual 25, 3) := by decide +kernel
theorem dX1_save_8 : decode cX1_save 8 = .ok (.astore_n 2, 1) := by decide +kernel
theorem dX1_save_9 : decode cX1_save 9 = .ok (.aload_n 2, 1) := by decide +kernel
theorem dX1_save_10 : decode cX1_save 10 = .ok (.ifnull 8, 3) := by decide +kernel
theorem dX1_save_13 : decode cX1_save 13 = .ok (.aload_n 2, 1) := by decide +kernel
theorem dX1_save_14 : decode cX1_save 14 = .ok (.aload_n 1, 1) := by decide +kernel
theorem dX1_save_15 : decode cX1_save 15 = .ok (.invokevirtual 29, 3) := by decide +kernel
theorem dX1_save_18 : decode cX1_save 18 = .ok (.aload_n 0, 1) := by decide +kernel
theorem dX1_save_19 : decode cX1_save 19 = .ok (.aload_n 0, 1) := by decide +kernel
theorem dX1_save_20 : decode cX1_save 20 = .ok (.getfield 22, 3) := by decide +kernel
theorem dX1_save_23 : decode cX1_save 23 = .ok (.iconst 1, 1) := by decide +kernel
theorem dX1_save_24 : decode cX1_save 24 = .ok (.iadd, 1) := by decide +kernel
theorem dX1_save_25 : decode cX1_save 25 = .ok (.bipush 6, 2) := by decide +kernel
theorem dX1_save_27 : decode cX1_save 27 = .ok (.if_icmp .ge 12, 3) := by decide +kernel
theorem dX1_save_30 : decode cX1_save 30 = .ok (.aload_n 0, 1) := by decide +kernel
theorem dX1_save_31 : decode cX1_save 31 = .ok (.getfield 22, 3) := by decide +kernel
theorem dX1_save_34 : decode cX1_save 34 = .ok (.iconst 1, 1) := by decide +kernel
theorem dX1_save_35 : decode cX1_save 35 = .ok (.iadd, 1) := by decide +kernel
theorem dX1_save_36 : decode cX1_save 36 = .ok (.goto 4, 3) := by decide +kernel
theorem dX1_save_39 : decode cX1_save 39 = .ok (.iconst 0, 1) := by decide +kernel
theorem dX1_save_40 : decode cX1_save 40 = .ok (.putfield 22, 3) := by decide +kernel
theorem dX1_save_43 : decode cX1_save 43 = .ok (.aload_n 0, 1) := by decide +kernel
theorem dX1_save_44 : decode cX1_save 44 = .ok (.aload_n 0, 1) := by decide +kernel
theorem dX1_save_45 : decode cX1_save 45 = .ok (.getfield 18, 3) := by decide +kernel
theorem dX1_save_48 : decode cX1_save 48 = .ok (.iconst 1, 1) := by decide +kernel
theorem dX1_save_49 : decode cX1_save 49 = .ok (.iadd, 1) := by decide +kernel
theorem dX1_save_50 : decode cX1_save 50 = .ok (.bipush 6, 2) := by decide +kernel
theorem dX1_save_52 : decode cX1_save 52 = .ok (.invokestatic 33, 3) := by decide +kernel
theorem dX1_save_55 : decode cX1_save 55 = .ok (.putfield 18, 3) := by decide +kernel
theorem dX1_save_58 : decode cX1_save 58 = .ok (.return_, 1) := by decide +kernel
theorem dX1_stateAt_0 : decode cX1_stateAt 0 = .ok (.iload_n 1, 1) := by decide +kernel
theorem dX1_stateAt_1 : decode cX1_stateAt 1 = .ok (.ifCond .lt 21, 3) := by decide +kernel
theorem dX1_stateAt_4 : decode cX1_stateAt 4 = .ok (.iload_n 1, 1) := by decide +kernel
theorem dX1_stateAt_5 : decode cX1_stateAt 5 = .ok (.aload_n 0, 1) := by decide +kernel
theorem dX1_stateAt_6 : decode cX1_stateAt 6 = .ok (.getfield 11, 3) := by decide +kernel
theorem dX1_stateAt_9 : decode cX1_stateAt 9 = .ok (.arraylength, 1) := by decide +kernel
theorem dX1_stateAt_10 : decode cX1_stateAt 10 = .ok (.if_icmp .ge 12, 3) := by decide +kernel
theorem dX1_stateAt_13 : decode cX1_stateAt 13 = .ok (.aload_n 0, 1) := by decide +kernel
theorem dX1_stateAt_14 : decode cX1_stateAt 14 = .ok (.getfield 11, 3) := by decide +kernel
theorem dX1_stateAt_17 : decode cX1_stateAt 17 = .ok (.iload_n 1, 1) := by decide +kernel
theorem dX1_stateAt_18 : decode cX1_stateAt 18 = .ok (.aaload, 1) := by decide +kernel
theorem dX1_stateAt_19 : decode cX1_stateAt 19 = .ok (.goto 4, 3) := by decide +kernel
theorem dX1_stateAt_22 : decode cX1_stateAt 22 = .ok (.aconst_null, 1) := by decide +kernel
theorem dX1_stateAt_23 : decode cX1_stateAt 23 = .ok (.areturn, 1) := by decide +kernel
theorem dX2_init_0 : decode cX2_init 0 = .ok (.aload_n 0, 1) := by decide +kernel
theorem dX2_init_1 : decode cX2_init 1 = .ok (.invokespecial 3, 3) := by decide +kernel
theorem dX2_init_4 : decode cX2_init 4 = .ok (.aload_n 0, 1) := by decide +kernel
theorem dX2_init_5 : decode cX2_init 5 = .ok (.bipush 60, 2) := by decide +kernel
theorem dX2_init_7 : decode cX2_init 7 = .ok (.newarray .int, 2) := by decide +kernel
theorem dX2_init_9 : decode cX2_init 9 = .ok (.putfield 9, 3) := by decide +kernel
theorem dX2_init_12 : decode cX2_init 12 = .ok (.return_, 1) := by decide +kernel
set_option maxRecDepth 20000 in
theorem ggX3_init_X0_init : GoodIn wsX3_init wsX0_init := goodIn_r _ [18, 19, 2, 3, 20, 21, 22, 23, 24, 25, 26, 36, 37, 38, 39, 40, 41, 42] (by decide +kernel) (by decide +kernel)
set_option maxRecDepth 20000 in
theorem gX3_init_X0_init_n9 : GoodIn wsX3_init (wsX0_init) := ggX3_init_X0_init
set_option maxRecDepth 20000 in
theorem ggX3_init_X1_init : GoodIn wsX3_init wsX1_init := goodIn_r _ [28, 29, 2, 3, 30, 31, 5, 6, 17, 18, 19, 20, 21, 22, 23, 24, 25, 26, 47, 48, 49, 36, 37, 38, 39, 40, 41, 42] (by decide +kernel) (by decide +kernel)
set_option maxRecDepth 20000 in
theorem gX3_init_X1_init_n21 : GoodIn wsX3_init (wsX1_init) := ggX3_init_X1_init
set_option maxRecDepth 20000 in
theorem ggX3_init_X2_init : GoodIn wsX3_init wsX2_init := goodIn_r _ [33, 34, 2, 3, 20, 35, 50, 51] (by decide +kernel) (by decide +kernel)
set_option maxRecDepth 20000 in
theorem gX3_init_X2_init_n28 : GoodIn wsX3_init (wsX2_init) := ggX3_init_X2_init
theorem dX3_init_0 : decode cX3_init 0 = .ok (.aload_n 0, 1) := by decide +kernel
theorem dX3_init_1 : decode cX3_init 1 = .ok (.invokespecial 1, 3) := by decide +kernel
theorem dX3_init_4 : decode cX3_init 4 = .ok (.aload_n 0, 1) := by decide +kernel
theorem dX3_init_5 : decode cX3_init 5 = .ok (.new 7, 3) := by decide +kernel
theorem dX3_init_8 : decode cX3_init 8 = .ok (.dup, 1) := by decide +kernel
theorem dX3_init_9 : decode cX3_init 9 = .ok (.invokespecial 9, 3) := by decide +kernel
theorem dX3_init_12 : decode cX3_init 12 = .ok (.putfield 10, 3) := by decide +kernel
theorem dX3_init_15 : decode cX3_init 15 = .ok (.aload_n 0, 1) := by decide +kernel
theorem dX3_init_16 : decode cX3_init 16 = .ok (.new 7, 3) := by decide +kernel
theorem dX3_init_19 : decode cX3_init 19 = .ok (.dup, 1) := by decide +kernel
theorem dX3_init_20 : decode cX3_init 20 = .ok (.invokespecial 9, 3) := by decide +kernel
theorem dX3_init_23 : decode cX3_init 23 = .ok (.putfield 16, 3) := by decide +kernel
theorem dX3_init_26 : decode cX3_init 26 = .ok (.aload_n 0, 1) := by decide +kernel
theorem dX3_init_27 : decode cX3_init 27 = .ok (.new 19, 3) := by decide +kernel
theorem dX3_init_30 : decode cX3_init 30 = .ok (.dup, 1) := by decide +kernel
theorem dX3_init_31 : decode cX3_init 31 = .ok (.invokespecial 21, 3) := by decide +kernel
theorem dX3_init_34 : decode cX3_init 34 = .ok (.putfield 22, 3) := by decide +kernel
theorem dX3_init_37 : decode cX3_init 37 = .ok (.aload_n 0, 1) := by decide +kernel
theorem dX3_init_38 : decode cX3_init 38 = .ok (.new 26, 3) := by decide +kernel
theorem dX3_init_41 : decode cX3_init 41 = .ok (.dup, 1) := by decide +kernel
theorem dX3_init_42 : decode cX3_init 42 = .ok (.invokespecial 28, 3) := by decide +kernel
theorem dX3_init_45 : decode cX3_init 45 = .ok (.putfield 29, 3) := by decide +kernel
theorem dX3_init_48 : decode cX3_init 48 = .ok (.return_, 1) := by decide +kernel
set_option maxRecDepth 20000 in
theorem ggX3_comb_X3_needPart : GoodIn wsX3_comb wsX3_needPart := goodIn_ca (goodIn_r _ [4, 5, 6, 7, 8, 3, 9] (by decide +kernel) (by decide +kernel)) (goodIn_sub (fun _ h => List.mem_cons_of_mem _ (List.mem_append_left _ (List.mem_append_left _ (List.mem_append_right _ h)))) (by decide +kernel))
set_option maxRecDepth 20000 in
theorem gX3_comb_X3_needPart : GoodIn wsX3_comb (va_wsS RX3 33 yX3_needPart wsX3_needPart) := goodIn_app (goodIn_of _ (by decide +kernel)) ggX3_comb_X3_needPart
set_option maxRecDepth 20000 in
theorem ggX3_comb_X3_isWithin : GoodIn wsX3_comb wsX3_isWithin := goodIn_r _ [9] (by decide +kernel) (by decide +kernel)
set_option maxRecDepth 20000 in
theorem gX3_comb_X3_isWithin : GoodIn wsX3_comb (va_wsS RX3 37 yX3_isWithin wsX3_isWithin) := goodIn_app (goodIn_of _ (by decide +kernel)) ggX3_comb_X3_isWithin
set_option maxRecDepth 20000 in
theorem ggX3_comb_X3_needArgument : GoodIn wsX3_comb wsX3_needArgument := goodIn_ca (goodIn_r _ [12, 13, 14] (by decide +kernel) (by decide +kernel)) (goodIn_sub (fun _ h => List.mem_cons_of_mem _ (List.mem_append_left _ (List.mem_append_right _ h))) (by decide +kernel))
set_option maxRecDepth 20000 in
theorem gX3_comb_X3_needArgument : GoodIn wsX3_comb (va_wsS RX3 41 yX3_needArgument wsX3_needArgument) := goodIn_app (goodIn_of _ (by decide +kernel)) ggX3_comb_X3_needArgument
set_option maxRecDepth 20000 in
theorem ggX3_comb_X3_addNew : GoodIn wsX3_comb wsX3_addNew := goodIn_ca (goodIn_r _ [18, 19, 20, 21, 22, 23, 24, 25, 26, 27, 3, 28, 29, 30, 31, 32, 33, 34, 35, 36, 37, 38, 39, 40, 41, 42, 43, 44, 45, 46, 47, 48, 49, 50, 51, 52, 53, 54, 55, 56, 57, 58, 59, 60, 61, 62, 63, 64, 65, 66, 67, 68, 69, 70, 71, 72, 73, 74] (by decide +kernel) (by decide +kernel)) (goodIn_sub (fun _ h => List.mem_cons_of_mem _ (List.mem_append_right _ h)) (by decide +kernel))
set_option maxRecDepth 20000 in
theorem gX3_comb_X3_addNew : GoodIn wsX3_comb (wsV RX3 45 RX3 yX3_addNew wsX3_addNew) := goodIn_app (goodIn_of _ (by decide +kernel)) ggX3_comb_X3_addNew
theorem dX3_comb_0 : decode cX3_comb 0 = .ok (.iload_n 1, 1) := by decide +kernel
theorem dX3_comb_1 : decode cX3_comb 1 = .ok (.iconst 4, 1) := by decide +kernel
theorem dX3_comb_2 : decode cX3_comb 2 = .ok (.invokestatic 33, 3) := by decide +kernel
theorem dX3_comb_5 : decode cX3_comb 5 = .ok (.iload_n 2, 1) := by decide +kernel
theorem dX3_comb_6 : decode cX3_comb 6 = .ok (.iconst 1, 1) := by decide +kernel
theorem dX3_comb_7 : decode cX3_comb 7 = .ok (.iconst 5, 1) := by decide +kernel
theorem dX3_comb_8 : decode cX3_comb 8 = .ok (.invokestatic 37, 3) := by decide +kernel
theorem dX3_comb_11 : decode cX3_comb 11 = .ok (.invokestatic 41, 3) := by decide +kernel
theorem dX3_comb_14 : decode cX3_comb 14 = .ok (.aload_n 0, 1) := by decide +kernel
theorem dX3_comb_15 : decode cX3_comb 15 = .ok (.iconst 0, 1) := by decide +kernel
theorem dX3_comb_16 : decode cX3_comb 16 = .ok (.iload_n 1, 1) := by decide +kernel
theorem dX3_comb_17 : decode cX3_comb 17 = .ok (.iload_n 2, 1) := by decide +kernel
theorem dX3_comb_18 : decode cX3_comb 18 = .ok (.iconst (-1), 1) := by decide +kernel
theorem dX3_comb_19 : decode cX3_comb 19 = .ok (.invokevirtual 45, 3) := by decide +kernel
theorem dX3_comb_22 : decode cX3_comb 22 = .ok (.ireturn, 1) := by decide +kernel
set_option maxRecDepth 20000 in
theorem ggX3_tick_X3_needPart : GoodIn wsX3_tick wsX3_needPart := goodIn_ca (goodIn_r _ [4, 5, 6, 7, 8, 3, 9] (by decide +kernel) (by decide +kernel)) (goodIn_sub (fun _ h => List.mem_cons_of_mem _ (List.mem_append_left _ (List.mem_append_left _ (List.mem_append_right _ h)))) (by decide +kernel))
set_option maxRecDepth 20000 in
theorem gX3_tick_X3_needPart : GoodIn wsX3_tick (va_wsS RX3 33 yX3_needPart wsX3_needPart) := goodIn_app (goodIn_of _ (by decide +kernel)) ggX3_tick_X3_needPart
set_option maxRecDepth 20000 in
theorem ggX3_tick_X3_isWithin : GoodIn wsX3_tick wsX3_isWithin := goodIn_r _ [9] (by decide +kernel) (by decide +kernel)
set_option maxRecDepth 20000 in
theorem gX3_tick_X3_isWithin : GoodIn wsX3_tick (va_wsS RX3 37 yX3_isWithin wsX3_isWithin) := goodIn_app (goodIn_of _ (by decide +kernel)) ggX3_tick_X3_isWithin
set_option maxRecDepth 20000 in
theorem ggX3_tick_X3_needArgument : GoodIn wsX3_tick wsX3_needArgument := goodIn_ca (goodIn_r _ [12, 13, 14] (by decide +kernel) (by decide +kernel)) (goodIn_sub (fun _ h => List.mem_cons_of_mem _ (List.mem_append_left _ (List.mem_append_right _ h))) (by decide +kernel))
set_option maxRecDepth 20000 in
theorem gX3_tick_X3_needArgument : GoodIn wsX3_tick (va_wsS RX3 41 yX3_needArgument wsX3_needArgument) := goodIn_app (goodIn_of _ (by decide +kernel)) ggX3_tick_X3_needArgument
set_option maxRecDepth 20000 in
theorem ggX3_tick_X3_addNew : GoodIn wsX3_tick wsX3_addNew := goodIn_ca (goodIn_r _ [18, 19, 20, 21, 22, 23, 24, 25, 26, 27, 3, 28, 29, 30, 31, 32, 33, 34, 35, 36, 37, 38, 39, 40, 41, 42, 43, 44, 45, 46, 47, 48, 49, 50, 51, 52, 53, 54, 55, 56, 57, 58, 59, 60, 61, 62, 63, 64, 65, 66, 67, 68, 69, 70, 71, 72, 73, 74] (by decide +kernel) (by decide +kernel)) (goodIn_sub (fun _ h => List.mem_cons_of_mem _ (List.mem_append_right _ h)) (by decide +kernel))
set_option maxRecDepth 20000 in
theorem gX3_tick_X3_addNew : GoodIn wsX3_tick (wsV RX3 45 RX3 yX3_addNew wsX3_addNew) := goodIn_app (goodIn_of _ (by decide +kernel)) ggX3_tick_X3_addNew
theorem dX3_tick_0 : decode cX3_tick 0 = .ok (.iload_n 1, 1) := by decide +kernel
theorem dX3_tick_1 : decode cX3_tick 1 = .ok (.iconst 4, 1) := by decide +kernel
theorem dX3_tick_2 : decode cX3_tick 2 = .ok (.invokestatic 33, 3) := by decide +kernel
theorem dX3_tick_5 : decode cX3_tick 5 = .ok (.iload_n 2, 1) := by decide +kernel
theorem dX3_tick_6 : decode cX3_tick 6 = .ok (.iconst (-1), 1) := by decide +kernel
theorem dX3_tick_7 : decode cX3_tick 7 = .ok (.if_icmp .eq 14, 3) := by decide +kernel
theorem dX3_tick_10 : decode cX3_tick 10 = .ok (.iload_n 2, 1) := by decide +kernel
theorem dX3_tick_11 : decode cX3_tick 11 = .ok (.iload_n 1, 1) := by decide +kernel
theorem dX3_tick_12 : decode cX3_tick 12 = .ok (.iconst 1, 1) := by decide +kernel
theorem dX3_tick_13 : decode cX3_tick 13 = .ok (.iadd, 1) := by decide +kernel
theorem dX3_tick_14 : decode cX3_tick 14 = .ok (.iconst 4, 1) := by decide +kernel
theorem dX3_tick_15 : decode cX3_tick 15 = .ok (.invokestatic 37, 3) := by decide +kernel
theorem dX3_tick_18 : decode cX3_tick 18 = .ok (.ifCond .eq 7, 3) := by decide +kernel
theorem dX3_tick_21 : decode cX3_tick 21 = .ok (.iconst 1, 1) := by decide +kernel
theorem dX3_tick_22 : decode cX3_tick 22 = .ok (.goto 4, 3) := by decide +kernel
theorem dX3_tick_25 : decode cX3_tick 25 = .ok (.iconst 0, 1) := by decide +kernel
theorem dX3_tick_26 : decode cX3_tick 26 = .ok (.invokestatic 41, 3) := by decide +kernel
theorem dX3_tick_29 : decode cX3_tick 29 = .ok (.aload_n 0, 1) := by decide +kernel
theorem dX3_tick_30 : decode cX3_tick 30 = .ok (.iconst 1, 1) := by decide +kernel
theorem dX3_tick_31 : decode cX3_tick 31 = .ok (.iload_n 1, 1) := by decide +kernel
theorem dX3_tick_32 : decode cX3_tick 32 = .ok (.iload_n 2, 1) := by decide +kernel
theorem dX3_tick_33 : decode cX3_tick 33 = .ok (.iconst (-1), 1) := by decide +kernel
theorem dX3_tick_34 : decode cX3_tick 34 = .ok (.invokevirtual 45, 3) := by decide +kernel
theorem dX3_tick_37 : decode cX3_tick 37 = .ok (.ireturn, 1) := by decide +kernel
set_option maxRecDepth 20000 in
theorem ggX3_skip_X3_needPart : GoodIn wsX3_skip wsX3_needPart := goodIn_ca (goodIn_r _ [4, 5, 6, 7, 8, 3, 9] (by decide +kernel) (by decide +kernel)) (goodIn_sub (fun _ h => List.mem_cons_of_mem _ (List.mem_append_left _ (List.mem_append_left _ (List.mem_append_right _ h)))) (by decide +kernel))
set_option maxRecDepth 20000 in
theorem gX3_skip_X3_needPart : GoodIn wsX3_skip (va_wsS RX3 33 yX3_needPart wsX3_needPart) := goodIn_app (goodIn_of _ (by decide +kernel)) ggX3_skip_X3_needPart
set_option maxRecDepth 20000 in
theorem ggX3_skip_X3_isWithin : GoodIn wsX3_skip wsX3_isWithin := goodIn_r _ [9] (by decide +kernel) (by decide +kernel)
set_option maxRecDepth 20000 in
theorem gX3_skip_X3_isWithin : GoodIn wsX3_skip (va_wsS RX3 37 yX3_isWithin wsX3_isWithin) := goodIn_app (goodIn_of _ (by decide +kernel)) ggX3_skip_X3_isWithin
set_option maxRecDepth 20000 in
theorem ggX3_skip_X3_needArgument : GoodIn wsX3_skip wsX3_needArgument := goodIn_ca (goodIn_r _ [12, 13, 14] (by decide +kernel) (by decide +kernel)) (goodIn_sub (fun _ h => List.mem_cons_of_mem _ (List.mem_append_left _ (List.mem_append_right _ h))) (by decide +kernel))
set_option maxRecDepth 20000 in
theorem gX3_skip_X3_needArgument : GoodIn wsX3_skip (va_wsS RX3 41 yX3_needArgument wsX3_needArgument) := goodIn_app (goodIn_of _ (by decide +kernel)) ggX3_skip_X3_needArgument
set_option maxRecDepth 20000 in
theorem ggX3_skip_X3_addNew : GoodIn wsX3_skip wsX3_addNew := goodIn_ca (goodIn_r _ [18, 19, 20, 21, 22, 23, 24, 25, 26, 27, 3, 28, 29, 30, 31, 32, 33, 34, 35, 36, 37, 38, 39, 40, 41, 42, 43, 44, 45, 46, 47, 48, 49, 50, 51, 52, 53, 54, 55, 56, 57, 58, 59, 60, 61, 62, 63, 64, 65, 66, 67, 68, 69, 70, 71, 72, 73, 74] (by decide +kernel) (by decide +kernel)) (goodIn_sub (fun _ h => List.mem_cons_of_mem _ (List.mem_append_right _ h)) (by decide +kernel))
set_option maxRecDepth 20000 in
theorem gX3_skip_X3_addNew : GoodIn wsX3_skip (wsV RX3 45 RX3 yX3_addNew wsX3_addNew) := goodIn_app (goodIn_of _ (by decide +kernel)) ggX3_skip_X3_addNew
theorem dX3_skip_0 : decode cX3_skip 0 = .ok (.iload_n 1, 1) := by decide +kernel
theorem dX3_skip_1 : decode cX3_skip 1 = .ok (.iconst 3, 1) := by decide +kernel
theorem dX3_skip_2 : decode cX3_skip 2 = .ok (.invokestatic 33, 3) := by decide +kernel
theorem dX3_skip_5 : decode cX3_skip 5 = .ok (.iload_n 2, 1) := by decide +kernel
theorem dX3_skip_6 : decode cX3_skip 6 = .ok (.iload_n 1, 1) := by decide +kernel
theorem dX3_skip_7 : decode cX3_skip 7 = .ok (.iconst 1, 1) := by decide +kernel
theorem dX3_skip_8 : decode cX3_skip 8 = .ok (.iadd, 1) := by decide +kernel
theorem dX3_skip_9 : decode cX3_skip 9 = .ok (.iconst 4, 1) := by decide +kernel
theorem dX3_skip_10 : decode cX3_skip 10 = .ok (.invokestatic 37, 3) := by decide +kernel
theorem dX3_skip_13 : decode cX3_skip 13 = .ok (.ifCond .eq 17, 3) := by decide +kernel
theorem dX3_skip_16 : decode cX3_skip 16 = .ok (.iload_n 3, 1) := by decide +kernel
theorem dX3_skip_17 : decode cX3_skip 17 = .ok (.iconst 0, 1) := by decide +kernel
theorem dX3_skip_18 : decode cX3_skip 18 = .ok (.bipush 99, 2) := by decide +kernel
theorem dX3_skip_20 : decode cX3_skip 20 = .ok (.invokestatic 37, 3) := by decide +kernel
theorem dX3_skip_23 : decode cX3_skip 23 = .ok (.ifCond .eq 7, 3) := by decide +kernel
theorem dX3_skip_26 : decode cX3_skip 26 = .ok (.iconst 1, 1) := by decide +kernel
theorem dX3_skip_27 : decode cX3_skip 27 = .ok (.goto 4, 3) := by decide +kernel
theorem dX3_skip_30 : decode cX3_skip 30 = .ok (.iconst 0, 1) := by decide +kernel
theorem dX3_skip_31 : decode cX3_skip 31 = .ok (.invokestatic 41, 3) := by decide +kernel
theorem dX3_skip_34 : decode cX3_skip 34 = .ok (.aload_n 0, 1) := by decide +kernel
theorem dX3_skip_35 : decode cX3_skip 35 = .ok (.iconst 2, 1) := by decide +kernel
theorem dX3_skip_36 : decode cX3_skip 36 = .ok (.iload_n 1, 1) := by decide +kernel
theorem dX3_skip_37 : decode cX3_skip 37 = .ok (.iload_n 2, 1) := by decide +kernel
theorem dX3_skip_38 : decode cX3_skip 38 = .ok (.iload_n 3, 1) := by decide +kernel
theorem dX3_skip_39 : decode cX3_skip 39 = .ok (.invokevirtual 45, 3) := by decide +kernel
theorem dX3_skip_42 : decode cX3_skip 42 = .ok (.ireturn, 1) := by decide +kernel
set_option maxRecDepth 20000 in
theorem ggX3_total_X3_needPart : GoodIn wsX3_total wsX3_needPart := goodIn_ca (goodIn_r _ [6, 7, 8, 9, 10, 5, 11] (by decide +kernel) (by decide +kernel)) (goodIn_sub (fun _ h => List.mem_cons_of_mem _ (List.mem_append_left _ (List.mem_append_left _ (List.mem_append_right _ h)))) (by decide +kernel))
set_option maxRecDepth 20000 in
theorem gX3_total_X3_needPart : GoodIn wsX3_total (va_wsS RX3 33 yX3_needPart wsX3_needPart) := goodIn_app (goodIn_of _ (by decide +kernel)) ggX3_total_X3_needPart
set_option maxRecDepth 20000 in
theorem ggX3_total_X3_isWithin : GoodIn wsX3_total wsX3_isWithin := goodIn_r _ [11] (by decide +kernel) (by decide +kernel)
set_option maxRecDepth 20000 in
theorem gX3_total_X3_isWithin : GoodIn wsX3_total (va_wsS RX3 37 yX3_isWithin wsX3_isWithin) := goodIn_app (goodIn_of _ (by decide +kernel)) ggX3_total_X3_isWithin
set_option maxRecDepth 20000 in
theorem ggX3_total_X0_canCarry : GoodIn wsX3_total wsX0_canCarry := goodIn_r _ [15, 16, 17, 5, 18, 19, 20, 21, 22, 23, 13, 24, 25, 75, 76, 77, 78, 79, 80, 81] (by decide +kernel) (by decide +kernel)
set_option maxRecDepth 20000 in
theorem gX3_total_X0_canCarry_n50 : GoodIn wsX3_total (wsX0_canCarry) := ggX3_total_X0_canCarry
set_option maxRecDepth 20000 in
theorem ggX3_total_X3_needArgument : GoodIn wsX3_total wsX3_needArgument := goodIn_ca (goodIn_r _ [28, 29, 30] (by decide +kernel) (by decide +kernel)) (goodIn_sub (fun _ h => List.mem_cons_of_mem _ (List.mem_append_left _ (List.mem_append_right _ h))) (by decide +kernel))
set_option maxRecDepth 20000 in
theorem gX3_total_X3_needArgument : GoodIn wsX3_total (va_wsS RX3 41 yX3_needArgument wsX3_needArgument) := goodIn_app (goodIn_of _ (by decide +kernel)) ggX3_total_X3_needArgument
set_option maxRecDepth 20000 in
theorem ggX3_total_X3_addNew : GoodIn wsX3_total wsX3_addNew := goodIn_ca (goodIn_r _ [34, 2, 35, 36, 13, 37, 38, 25, 39, 40, 5, 41, 42, 43, 44, 45, 46, 47, 48, 49, 50, 51, 52, 53, 54, 55, 56, 57, 58, 59, 60, 61, 16, 62, 63, 64, 65, 17, 18, 66, 67, 68, 69, 70, 71, 72, 73, 74, 75, 76, 77, 78, 79, 80, 81, 82, 83, 84] (by decide +kernel) (by decide +kernel)) (goodIn_sub (fun _ h => List.mem_cons_of_mem _ (List.mem_append_right _ h)) (by decide +kernel))
set_option maxRecDepth 20000 in
theorem gX3_total_X3_addNew : GoodIn wsX3_total (wsV RX3 45 RX3 yX3_addNew wsX3_addNew) := goodIn_app (goodIn_of _ (by decide +kernel)) ggX3_total_X3_addNew
theorem dX3_total_0 : decode cX3_total 0 = .ok (.iload_n 1, 1) := by decide +kernel
theorem dX3_total_1 : decode cX3_total 1 = .ok (.iconst 4, 1) := by decide +kernel
theorem dX3_total_2 : decode cX3_total 2 = .ok (.invokestatic 33, 3) := by decide +kernel
theorem dX3_total_5 : decode cX3_total 5 = .ok (.iload_n 2, 1) := by decide +kernel
theorem dX3_total_6 : decode cX3_total 6 = .ok (.iconst 0, 1) := by decide +kernel
theorem dX3_total_7 : decode cX3_total 7 = .ok (.ldc 49, 2) := by decide +kernel
theorem dX3_total_9 : decode cX3_total 9 = .ok (.invokestatic 37, 3) := by decide +kernel
theorem dX3_total_12 : decode cX3_total 12 = .ok (.ifCond .eq 18, 3) := by decide +kernel
theorem dX3_total_15 : decode cX3_total 15 = .ok (.aload_n 0, 1) := by decide +kernel
theorem dX3_total_16 : decode cX3_total 16 = .ok (.getfield 10, 3) := by decide +kernel
theorem dX3_total_19 : decode cX3_total 19 = .ok (.iload_n 2, 1) := by decide +kernel
theorem dX3_total_20 : decode cX3_total 20 = .ok (.invokevirtual 50, 3) := by decide +kernel
theorem dX3_total_23 : decode cX3_total 23 = .ok (.ifCond .eq 7, 3) := by decide +kernel
theorem dX3_total_26 : decode cX3_total 26 = .ok (.iconst 1, 1) := by decide +kernel
theorem dX3_total_27 : decode cX3_total 27 = .ok (.goto 4, 3) := by decide +kernel
theorem dX3_total_30 : decode cX3_total 30 = .ok (.iconst 0, 1) := by decide +kernel
theorem dX3_total_31 : decode cX3_total 31 = .ok (.invokestatic 41, 3) := by decide +kernel
theorem dX3_total_34 : decode cX3_total 34 = .ok (.aload_n 0, 1) := by decide +kernel
theorem dX3_total_35 : decode cX3_total 35 = .ok (.iconst 3, 1) := by decide +kernel
theorem dX3_total_36 : decode cX3_total 36 = .ok (.iload_n 1, 1) := by decide +kernel
theorem dX3_total_37 : decode cX3_total 37 = .ok (.iload_n 2, 1) := by decide +kernel
theorem dX3_total_38 : decode cX3_total 38 = .ok (.iconst (-1), 1) := by decide +kernel
theorem dX3_total_39 : decode cX3_total 39 = .ok (.invokevirtual 45, 3) := by decide +kernel
theorem dX3_total_42 : decode cX3_total 42 = .ok (.ireturn, 1) := by decide +kernel
set_option maxRecDepth 20000 in
theorem ggX3_drop_X0_size : GoodIn wsX3_drop wsX0_size := goodIn_r _ [6, 7, 51, 52, 53, 54, 55, 56, 57] (by decide +kernel) (by decide +kernel)
set_option maxRecDepth 20000 in
theorem gX3_drop_X0_size_n54 : GoodIn wsX3_drop (wsX0_size) := ggX3_drop_X0_size
set_option maxRecDepth 20000 in
theorem ggX3_drop_X3_needState : GoodIn wsX3_drop wsX3_needState := goodIn_ca (goodIn_r _ [11, 12, 13] (by decide +kernel) (by decide +kernel)) (goodIn_sub (fun _ h => List.mem_cons_of_mem _ (List.mem_append_right _ h)) (by decide +kernel))
set_option maxRecDepth 20000 in
theorem gX3_drop_X3_needState : GoodIn wsX3_drop (va_wsS RX3 58 yX3_needState wsX3_needState) := goodIn_app (goodIn_of _ (by decide +kernel)) ggX3_drop_X3_needState
set_option maxRecDepth 20000 in
theorem ggX3_drop_X1_save : GoodIn wsX3_drop wsX1_save := goodIn_r _ [17, 18, 19, 20, 21, 22, 23, 24, 25, 26, 15, 27, 28, 29, 4, 30, 31, 7, 32, 33, 34, 35, 36, 37, 10, 38, 39, 40, 58, 59, 60, 51, 52, 53, 54, 55, 56, 57] (by decide +kernel) (by decide +kernel)
set_option maxRecDepth 20000 in
theorem gX3_drop_X1_save_n61 : GoodIn wsX3_drop (wsX1_save) := ggX3_drop_X1_save
set_option maxRecDepth 20000 in
theorem ggX3_drop_X0_kindOf : GoodIn wsX3_drop wsX0_kindOf := goodIn_r _ [43, 32, 37, 10, 38, 51, 52, 53, 54, 55, 56, 57] (by decide +kernel) (by decide +kernel)
set_option maxRecDepth 20000 in
theorem gX3_drop_X0_kindOf_n65 : GoodIn wsX3_drop (wsX0_kindOf) := ggX3_drop_X0_kindOf
set_option maxRecDepth 20000 in
theorem ggX3_drop_X0_removeLast : GoodIn wsX3_drop wsX0_removeLast := goodIn_r _ [46, 7, 51, 52, 53, 54, 55, 56, 57] (by decide +kernel) (by decide +kernel)
set_option maxRecDepth 20000 in
theorem gX3_drop_X0_removeLast_n69 : GoodIn wsX3_drop (wsX0_removeLast) := ggX3_drop_X0_removeLast
theorem dX3_drop_0 : decode cX3_drop 0 = .ok (.aload_n 0, 1) := by decide +kernel
theorem dX3_drop_1 : decode cX3_drop 1 = .ok (.getfield 10, 3) := by decide +kernel
theorem dX3_drop_4 : decode cX3_drop 4 = .ok (.invokevirtual 54, 3) := by decide +kernel
theorem dX3_drop_7 : decode cX3_drop 7 = .ok (.iconst 1, 1) := by decide +kernel
theorem dX3_drop_8 : decode cX3_drop 8 = .ok (.isub, 1) := by decide +kernel
theorem dX3_drop_9 : decode cX3_drop 9 = .ok (.istore_n 1, 1) := by decide +kernel
theorem dX3_drop_10 : decode cX3_drop 10 = .ok (.iload_n 1, 1) := by decide +kernel
theorem dX3_drop_11 : decode cX3_drop 11 = .ok (.ifCond .lt 7, 3) := by decide +kernel
theorem dX3_drop_14 : decode cX3_drop 14 = .ok (.iconst 1, 1) := by decide +kernel
theorem dX3_drop_15 : decode cX3_drop 15 = .ok (.goto 4, 3) := by decide +kernel
theorem dX3_drop_18 : decode cX3_drop 18 = .ok (.iconst 0, 1) := by decide +kernel
theorem dX3_drop_19 : decode cX3_drop 19 = .ok (.invokestatic 58, 3) := by decide +kernel
theorem dX3_drop_22 : decode cX3_drop 22 = .ok (.aload_n 0, 1) := by decide +kernel
theorem dX3_drop_23 : decode cX3_drop 23 = .ok (.getfield 22, 3) := by decide +kernel
theorem dX3_drop_26 : decode cX3_drop 26 = .ok (.aload_n 0, 1) := by decide +kernel
theorem dX3_drop_27 : decode cX3_drop 27 = .ok (.getfield 10, 3) := by decide +kernel
theorem dX3_drop_30 : decode cX3_drop 30 = .ok (.invokevirtual 61, 3) := by decide +kernel
theorem dX3_drop_33 : decode cX3_drop 33 = .ok (.aload_n 0, 1) := by decide +kernel
theorem dX3_drop_34 : decode cX3_drop 34 = .ok (.getfield 10, 3) := by decide +kernel
theorem dX3_drop_37 : decode cX3_drop 37 = .ok (.iload_n 1, 1) := by decide +kernel
theorem dX3_drop_38 : decode cX3_drop 38 = .ok (.invokevirtual 65, 3) := by decide +kernel
theorem dX3_drop_41 : decode cX3_drop 41 = .ok (.istore_n 2, 1) := by decide +kernel
theorem dX3_drop_42 : decode cX3_drop 42 = .ok (.aload_n 0, 1) := by decide +kernel
theorem dX3_drop_43 : decode cX3_drop 43 = .ok (.getfield 10, 3) := by decide +kernel
theorem dX3_drop_46 : decode cX3_drop 46 = .ok (.invokevirtual 69, 3) := by decide +kernel
theorem dX3_drop_49 : decode cX3_drop 49 = .ok (.iload_n 2, 1) := by decide +kernel
theorem dX3_drop_50 : decode cX3_drop 50 = .ok (.ireturn, 1) := by decide +kernel
set_option maxRecDepth 20000 in
theorem ggX3_answer_X3_needBox : GoodIn wsX3_answer wsX3_needBox := goodIn_ca (goodIn_r _ [7, 8, 9, 1, 10, 11, 12, 13, 14, 94, 95, 96, 97, 98, 99, 100, 101, 102, 103, 104] (by decide +kernel) (by decide +kernel)) (goodIn_sub (fun _ h => List.mem_cons_of_mem _ (List.mem_append_left _ (List.mem_append_right _ h))) (by decide +kernel))
set_option maxRecDepth 20000 in
theorem gX3_answer_X3_needBox : GoodIn wsX3_answer (wsV RX3 72 RX3 yX3_needBox wsX3_needBox) := goodIn_app (goodIn_of _ (by decide +kernel)) ggX3_answer_X3_needBox
set_option maxRecDepth 20000 in
theorem ggX3_answer_X0_fits : GoodIn wsX3_answer wsX0_fits := goodIn_r _ [17, 18, 19, 20, 11, 21, 22, 23, 24, 6, 25, 26, 27, 28, 29, 30, 98, 99, 100, 101, 102, 103, 104] (by decide +kernel) (by decide +kernel)
set_option maxRecDepth 20000 in
theorem gX3_answer_X0_fits_n76 : GoodIn wsX3_answer (wsX0_fits) := ggX3_answer_X0_fits
set_option maxRecDepth 20000 in
theorem ggX3_answer_X3_needArgument : GoodIn wsX3_answer wsX3_needArgument := goodIn_ca (goodIn_r _ [33, 34, 35] (by decide +kernel) (by decide +kernel)) (goodIn_sub (fun _ h => List.mem_cons_of_mem _ (List.mem_append_right _ h)) (by decide +kernel))
set_option maxRecDepth 20000 in
theorem gX3_answer_X3_needArgument : GoodIn wsX3_answer (va_wsS RX3 41 yX3_needArgument wsX3_needArgument) := goodIn_app (goodIn_of _ (by decide +kernel)) ggX3_answer_X3_needArgument
set_option maxRecDepth 20000 in
theorem ggX3_answer_X1_save : GoodIn wsX3_answer wsX1_save := goodIn_r _ [39, 40, 41, 42, 43, 44, 45, 46, 47, 48, 37, 49, 50, 51, 11, 52, 53, 14, 22, 54, 23, 55, 56, 24, 6, 25, 57, 58, 105, 106, 107, 98, 99, 100, 101, 102, 103, 104] (by decide +kernel) (by decide +kernel)
set_option maxRecDepth 20000 in
theorem gX3_answer_X1_save_n61 : GoodIn wsX3_answer (wsX1_save) := ggX3_answer_X1_save
set_option maxRecDepth 20000 in
theorem ggX3_answer_X0_give : GoodIn wsX3_answer wsX0_give := goodIn_r _ [61, 56, 57, 6, 58, 98, 99, 100, 101, 102, 103, 104] (by decide +kernel) (by decide +kernel)
set_option maxRecDepth 20000 in
theorem gX3_answer_X0_give_n80 : GoodIn wsX3_answer (wsX0_give) := ggX3_answer_X0_give
set_option maxRecDepth 20000 in
theorem ggX3_answer_X0_openParts : GoodIn wsX3_answer wsX0_openParts := goodIn_r _ [64, 65, 66, 67, 11, 68, 14, 56, 69, 70, 71, 72, 22, 23, 24, 6, 25, 73, 74, 75, 76, 54, 77, 78, 79, 80, 81, 82, 55, 83, 84, 85, 86, 98, 99, 100, 101, 102, 103, 104] (by decide +kernel) (by decide +kernel)
set_option maxRecDepth 20000 in
theorem gX3_answer_X0_openParts_n83 : GoodIn wsX3_answer (wsX0_openParts) := ggX3_answer_X0_openParts
set_option maxRecDepth 20000 in
theorem ggX3_answer_X0_wanting : GoodIn wsX3_answer wsX0_wanting := goodIn_r _ [89, 14, 90, 91, 92, 11, 93, 73, 74, 75, 76, 54, 24, 6, 25, 77, 78, 83, 84, 85, 86, 22, 56, 98, 99, 100, 101, 102, 103, 104] (by decide +kernel) (by decide +kernel)
set_option maxRecDepth 20000 in
theorem gX3_answer_X0_wanting_n86 : GoodIn wsX3_answer (wsX0_wanting) := ggX3_answer_X0_wanting
theorem dX3_answer_0 : decode cX3_answer 0 = .ok (.aload_n 0, 1) := by decide +kernel
theorem dX3_answer_1 : decode cX3_answer 1 = .ok (.iload_n 1, 1) := by decide +kernel
theorem dX3_answer_2 : decode cX3_answer 2 = .ok (.invokevirtual 72, 3) := by decide +kernel
theorem dX3_answer_5 : decode cX3_answer 5 = .ok (.aload_n 0, 1) := by decide +kernel
theorem dX3_answer_6 : decode cX3_answer 6 = .ok (.getfield 10, 3) := by decide +kernel
theorem dX3_answer_9 : decode cX3_answer 9 = .ok (.iload_n 1, 1) := by decide +kernel
theorem dX3_answer_10 : decode cX3_answer 10 = .ok (.iload_n 2, 1) := by decide +kernel
theorem dX3_answer_11 : decode cX3_answer 11 = .ok (.invokevirtual 76, 3) := by decide +kernel
theorem dX3_answer_14 : decode cX3_answer 14 = .ok (.invokestatic 41, 3) := by decide +kernel
theorem dX3_answer_17 : decode cX3_answer 17 = .ok (.aload_n 0, 1) := by decide +kernel
theorem dX3_answer_18 : decode cX3_answer 18 = .ok (.getfield 22, 3) := by decide +kernel
theorem dX3_answer_21 : decode cX3_answer 21 = .ok (.aload_n 0, 1) := by decide +kernel
theorem dX3_answer_22 : decode cX3_answer 22 = .ok (.getfield 10, 3) := by decide +kernel
theorem dX3_answer_25 : decode cX3_answer 25 = .ok (.invokevirtual 61, 3) := by decide +kernel
theorem dX3_answer_28 : decode cX3_answer 28 = .ok (.aload_n 0, 1) := by decide +kernel
theorem dX3_answer_29 : decode cX3_answer 29 = .ok (.getfield 10, 3) := by decide +kernel
theorem dX3_answer_32 : decode cX3_answer 32 = .ok (.iload_n 1, 1) := by decide +kernel
theorem dX3_answer_33 : decode cX3_answer 33 = .ok (.iload_n 2, 1) := by decide +kernel
theorem dX3_answer_34 : decode cX3_answer 34 = .ok (.invokevirtual 80, 3) := by decide +kernel
theorem dX3_answer_37 : decode cX3_answer 37 = .ok (.aload_n 0, 1) := by decide +kernel
theorem dX3_answer_38 : decode cX3_answer 38 = .ok (.getfield 10, 3) := by decide +kernel
theorem dX3_answer_41 : decode cX3_answer 41 = .ok (.aload_n 0, 1) := by decide +kernel
theorem dX3_answer_42 : decode cX3_answer 42 = .ok (.getfield 10, 3) := by decide +kernel
theorem dX3_answer_45 : decode cX3_answer 45 = .ok (.invokevirtual 83, 3) := by decide +kernel
theorem dX3_answer_48 : decode cX3_answer 48 = .ok (.invokevirtual 86, 3) := by decide +kernel
theorem dX3_answer_51 : decode cX3_answer 51 = .ok (.ireturn, 1) := by decide +kernel
set_option maxRecDepth 20000 in
theorem ggX3_clear_X1_save : GoodIn wsX3_clear wsX1_save := goodIn_r _ [6, 7, 8, 9, 10, 11, 12, 13, 14, 15, 4, 16, 17, 18, 19, 20, 21, 22, 23, 24, 25, 26, 27, 28, 29, 30, 31, 32, 46, 47, 48, 49, 50, 51, 52, 53, 54, 55] (by decide +kernel) (by decide +kernel)
set_option maxRecDepth 20000 in
theorem gX3_clear_X1_save_n61 : GoodIn wsX3_clear (wsX1_save) := ggX3_clear_X1_save
set_option maxRecDepth 20000 in
theorem ggX3_clear_X0_answered : GoodIn wsX3_clear wsX0_answered := goodIn_r _ [35, 22, 27, 28, 29, 30, 49, 50, 51, 52, 53, 54, 55] (by decide +kernel) (by decide +kernel)
set_option maxRecDepth 20000 in
theorem gX3_clear_X0_answered_n89 : GoodIn wsX3_clear (wsX0_answered) := ggX3_clear_X0_answered
set_option maxRecDepth 20000 in
theorem ggX3_clear_X0_size : GoodIn wsX3_clear wsX0_size := goodIn_r _ [38, 22, 49, 50, 51, 52, 53, 54, 55] (by decide +kernel) (by decide +kernel)
set_option maxRecDepth 20000 in
theorem gX3_clear_X0_size_n54 : GoodIn wsX3_clear (wsX0_size) := ggX3_clear_X0_size
set_option maxRecDepth 20000 in
theorem ggX3_clear_X0_give : GoodIn wsX3_clear wsX0_give := goodIn_r _ [41, 27, 31, 29, 32, 49, 50, 51, 52, 53, 54, 55] (by decide +kernel) (by decide +kernel)
set_option maxRecDepth 20000 in
theorem gX3_clear_X0_give_n80 : GoodIn wsX3_clear (wsX0_give) := ggX3_clear_X0_give
theorem dX3_clear_0 : decode cX3_clear 0 = .ok (.aload_n 0, 1) := by decide +kernel
theorem dX3_clear_1 : decode cX3_clear 1 = .ok (.getfield 22, 3) := by decide +kernel
theorem dX3_clear_4 : decode cX3_clear 4 = .ok (.aload_n 0, 1) := by decide +kernel
theorem dX3_clear_5 : decode cX3_clear 5 = .ok (.getfield 10, 3) := by decide +kernel
theorem dX3_clear_8 : decode cX3_clear 8 = .ok (.invokevirtual 61, 3) := by decide +kernel
theorem dX3_clear_11 : decode cX3_clear 11 = .ok (.aload_n 0, 1) := by decide +kernel
theorem dX3_clear_12 : decode cX3_clear 12 = .ok (.getfield 10, 3) := by decide +kernel
theorem dX3_clear_15 : decode cX3_clear 15 = .ok (.invokevirtual 89, 3) := by decide +kernel
theorem dX3_clear_18 : decode cX3_clear 18 = .ok (.istore_n 1, 1) := by decide +kernel
theorem dX3_clear_19 : decode cX3_clear 19 = .ok (.aload_n 0, 1) := by decide +kernel
theorem dX3_clear_20 : decode cX3_clear 20 = .ok (.getfield 10, 3) := by decide +kernel
theorem dX3_clear_23 : decode cX3_clear 23 = .ok (.invokevirtual 54, 3) := by decide +kernel
theorem dX3_clear_26 : decode cX3_clear 26 = .ok (.istore_n 2, 1) := by decide +kernel
theorem dX3_clear_27 : decode cX3_clear 27 = .ok (.iconst 0, 1) := by decide +kernel
theorem dX3_clear_28 : decode cX3_clear 28 = .ok (.istore_n 3, 1) := by decide +kernel
theorem dX3_clear_29 : decode cX3_clear 29 = .ok (.iload_n 3, 1) := by decide +kernel
theorem dX3_clear_30 : decode cX3_clear 30 = .ok (.iload_n 2, 1) := by decide +kernel
theorem dX3_clear_31 : decode cX3_clear 31 = .ok (.if_icmp .ge 18, 3) := by decide +kernel
theorem dX3_clear_34 : decode cX3_clear 34 = .ok (.aload_n 0, 1) := by decide +kernel
theorem dX3_clear_35 : decode cX3_clear 35 = .ok (.getfield 10, 3) := by decide +kernel
theorem dX3_clear_38 : decode cX3_clear 38 = .ok (.iload_n 3, 1) := by decide +kernel
theorem dX3_clear_39 : decode cX3_clear 39 = .ok (.iconst (-1), 1) := by decide +kernel
theorem dX3_clear_40 : decode cX3_clear 40 = .ok (.invokevirtual 80, 3) := by decide +kernel
theorem dX3_clear_43 : decode cX3_clear 43 = .ok (.iinc 3 1, 3) := by decide +kernel
theorem dX3_clear_46 : decode cX3_clear 46 = .ok (.goto (-17), 3) := by decide +kernel
theorem dX3_clear_49 : decode cX3_clear 49 = .ok (.iload_n 1, 1) := by decide +kernel
theorem dX3_clear_50 : decode cX3_clear 50 = .ok (.ireturn, 1) := by decide +kernel
set_option maxRecDepth 20000 in
theorem ggX3_box_X3_needBox : GoodIn wsX3_box wsX3_needBox := goodIn_ca (goodIn_r _ [6, 7, 8, 1, 9, 10, 11, 12, 13, 95, 96, 97, 98, 99, 100, 101, 102, 103, 104, 105] (by decide +kernel) (by decide +kernel)) (goodIn_sub (fun _ h => List.mem_cons_of_mem _ (List.mem_append_left _ (List.mem_append_right _ h))) (by decide +kernel))
set_option maxRecDepth 20000 in
theorem gX3_box_X3_needBox : GoodIn wsX3_box (wsV RX3 72 RX3 yX3_needBox wsX3_needBox) := goodIn_app (goodIn_of _ (by decide +kernel)) ggX3_box_X3_needBox
set_option maxRecDepth 20000 in
theorem ggX3_box_X3_isWithin : GoodIn wsX3_box wsX3_isWithin := goodIn_r _ [16] (by decide +kernel) (by decide +kernel)
set_option maxRecDepth 20000 in
theorem gX3_box_X3_isWithin : GoodIn wsX3_box (va_wsS RX3 37 yX3_isWithin wsX3_isWithin) := goodIn_app (goodIn_of _ (by decide +kernel)) ggX3_box_X3_isWithin
set_option maxRecDepth 20000 in
theorem ggX3_box_X3_needArgument : GoodIn wsX3_box wsX3_needArgument := goodIn_ca (goodIn_r _ [19, 20, 21] (by decide +kernel) (by decide +kernel)) (goodIn_sub (fun _ h => List.mem_cons_of_mem _ (List.mem_append_right _ h)) (by decide +kernel))
set_option maxRecDepth 20000 in
theorem gX3_box_X3_needArgument : GoodIn wsX3_box (va_wsS RX3 41 yX3_needArgument wsX3_needArgument) := goodIn_app (goodIn_of _ (by decide +kernel)) ggX3_box_X3_needArgument
set_option maxRecDepth 20000 in
theorem ggX3_box_X0_openParts : GoodIn wsX3_box wsX0_openParts := goodIn_r _ [24, 25, 26, 27, 10, 28, 13, 29, 30, 31, 32, 33, 34, 35, 36, 5, 37, 38, 39, 40, 41, 42, 43, 44, 45, 46, 47, 48, 49, 50, 51, 52, 53, 99, 100, 101, 102, 103, 104, 105] (by decide +kernel) (by decide +kernel)
set_option maxRecDepth 20000 in
theorem gX3_box_X0_openParts_n83 : GoodIn wsX3_box (wsX0_openParts) := ggX3_box_X0_openParts
set_option maxRecDepth 20000 in
theorem ggX3_box_X3_ofBox : GoodIn wsX3_box wsX3_ofBox := goodIn_r _ [57, 1, 58, 10, 59, 60, 34, 36, 5, 37, 61, 62, 63, 42, 64, 65, 66, 35, 67, 68, 69, 49, 70, 71, 72, 29, 73, 74, 75, 13, 76, 77, 78, 79, 80, 81, 82, 83, 84, 85, 43, 44, 38, 39, 40, 41, 86, 87, 88, 89, 50, 51, 52, 53, 90, 91, 92, 93, 94, 95, 96, 97, 98, 99, 100, 101, 102, 103, 104, 105] (by decide +kernel) (by decide +kernel)
set_option maxRecDepth 20000 in
theorem gX3_box_X3_ofBox : GoodIn wsX3_box (wsV RX3 115 RX3 yX3_ofBox wsX3_ofBox) := goodIn_app (goodIn_of _ (by decide +kernel)) ggX3_box_X3_ofBox
theorem dX3_box_0 : decode cX3_box 0 = .ok (.aload_n 0, 1) := by decide +kernel
theorem dX3_box_1 : decode cX3_box 1 = .ok (.iload_n 1, 1) := by decide +kernel
theorem dX3_box_2 : decode cX3_box 2 = .ok (.invokevirtual 72, 3) := by decide +kernel
theorem dX3_box_5 : decode cX3_box 5 = .ok (.iload_n 2, 1) := by decide +kernel
theorem dX3_box_6 : decode cX3_box 6 = .ok (.iconst 0, 1) := by decide +kernel
theorem dX3_box_7 : decode cX3_box 7 = .ok (.bipush 7, 2) := by decide +kernel
theorem dX3_box_9 : decode cX3_box 9 = .ok (.invokestatic 37, 3) := by decide +kernel
theorem dX3_box_12 : decode cX3_box 12 = .ok (.invokestatic 41, 3) := by decide +kernel
theorem dX3_box_15 : decode cX3_box 15 = .ok (.aload_n 0, 1) := by decide +kernel
theorem dX3_box_16 : decode cX3_box 16 = .ok (.iload_n 1, 1) := by decide +kernel
theorem dX3_box_17 : decode cX3_box 17 = .ok (.iload_n 2, 1) := by decide +kernel
theorem dX3_box_18 : decode cX3_box 18 = .ok (.aload_n 0, 1) := by decide +kernel
theorem dX3_box_19 : decode cX3_box 19 = .ok (.getfield 10, 3) := by decide +kernel
theorem dX3_box_22 : decode cX3_box 22 = .ok (.invokevirtual 83, 3) := by decide +kernel
theorem dX3_box_25 : decode cX3_box 25 = .ok (.invokevirtual 115, 3) := by decide +kernel
theorem dX3_box_28 : decode cX3_box 28 = .ok (.ireturn, 1) := by decide +kernel
set_option maxRecDepth 20000 in
theorem ggX3_part_X3_needPart : GoodIn wsX3_part wsX3_needPart := goodIn_ca (goodIn_r _ [5, 6, 7, 8, 9, 4, 10] (by decide +kernel) (by decide +kernel)) (goodIn_sub (fun _ h => List.mem_cons_of_mem _ (List.mem_append_left _ (List.mem_append_right _ h))) (by decide +kernel))
set_option maxRecDepth 20000 in
theorem gX3_part_X3_needPart : GoodIn wsX3_part (va_wsS RX3 33 yX3_needPart wsX3_needPart) := goodIn_app (goodIn_of _ (by decide +kernel)) ggX3_part_X3_needPart
set_option maxRecDepth 20000 in
theorem ggX3_part_X3_isWithin : GoodIn wsX3_part wsX3_isWithin := goodIn_r _ [10] (by decide +kernel) (by decide +kernel)
set_option maxRecDepth 20000 in
theorem gX3_part_X3_isWithin : GoodIn wsX3_part (va_wsS RX3 37 yX3_isWithin wsX3_isWithin) := goodIn_app (goodIn_of _ (by decide +kernel)) ggX3_part_X3_isWithin
set_option maxRecDepth 20000 in
theorem ggX3_part_X3_needArgument : GoodIn wsX3_part wsX3_needArgument := goodIn_ca (goodIn_r _ [13, 14, 15] (by decide +kernel) (by decide +kernel)) (goodIn_sub (fun _ h => List.mem_cons_of_mem _ (List.mem_append_right _ h)) (by decide +kernel))
set_option maxRecDepth 20000 in
theorem gX3_part_X3_needArgument : GoodIn wsX3_part (va_wsS RX3 41 yX3_needArgument wsX3_needArgument) := goodIn_app (goodIn_of _ (by decide +kernel)) ggX3_part_X3_needArgument
set_option maxRecDepth 20000 in
theorem ggX3_part_X0_openParts : GoodIn wsX3_part wsX0_openParts := goodIn_r _ [19, 20, 21, 22, 17, 23, 24, 25, 26, 27, 28, 29, 30, 31, 32, 4, 33, 34, 35, 36, 37, 38, 39, 40, 41, 42, 43, 44, 45, 46, 47, 48, 49, 72, 73, 74, 75, 76, 77, 78] (by decide +kernel) (by decide +kernel)
set_option maxRecDepth 20000 in
theorem gX3_part_X0_openParts_n83 : GoodIn wsX3_part (wsX0_openParts) := ggX3_part_X0_openParts
set_option maxRecDepth 20000 in
theorem ggX3_part_X3_ofPart : GoodIn wsX3_part wsX3_ofPart := goodIn_r _ [53, 1, 54, 39, 4, 40, 55, 17, 56, 57, 24, 38, 32, 33, 58, 59, 60, 61, 62, 63, 64, 34, 35, 36, 37, 46, 47, 48, 49, 30, 25, 65, 66, 67, 26, 27, 28, 29, 31, 42, 43, 44, 45, 68, 69, 70, 71, 72, 73, 74, 75, 76, 77, 78] (by decide +kernel) (by decide +kernel)
set_option maxRecDepth 20000 in
theorem gX3_part_X3_ofPart : GoodIn wsX3_part (wsV RX3 119 RX3 yX3_ofPart wsX3_ofPart) := goodIn_app (goodIn_of _ (by decide +kernel)) ggX3_part_X3_ofPart
theorem dX3_part_0 : decode cX3_part 0 = .ok (.iload_n 1, 1) := by decide +kernel
theorem dX3_part_1 : decode cX3_part 1 = .ok (.iconst 4, 1) := by decide +kernel
theorem dX3_part_2 : decode cX3_part 2 = .ok (.invokestatic 33, 3) := by decide +kernel
theorem dX3_part_5 : decode cX3_part 5 = .ok (.iload_n 2, 1) := by decide +kernel
theorem dX3_part_6 : decode cX3_part 6 = .ok (.iconst 0, 1) := by decide +kernel
theorem dX3_part_7 : decode cX3_part 7 = .ok (.iconst 5, 1) := by decide +kernel
theorem dX3_part_8 : decode cX3_part 8 = .ok (.invokestatic 37, 3) := by decide +kernel
theorem dX3_part_11 : decode cX3_part 11 = .ok (.invokestatic 41, 3) := by decide +kernel
theorem dX3_part_14 : decode cX3_part 14 = .ok (.aload_n 0, 1) := by decide +kernel
theorem dX3_part_15 : decode cX3_part 15 = .ok (.iload_n 1, 1) := by decide +kernel
theorem dX3_part_16 : decode cX3_part 16 = .ok (.iload_n 2, 1) := by decide +kernel
theorem dX3_part_17 : decode cX3_part 17 = .ok (.aload_n 0, 1) := by decide +kernel
theorem dX3_part_18 : decode cX3_part 18 = .ok (.getfield 10, 3) := by decide +kernel
theorem dX3_part_21 : decode cX3_part 21 = .ok (.invokevirtual 83, 3) := by decide +kernel
theorem dX3_part_24 : decode cX3_part 24 = .ok (.invokevirtual 119, 3) := by decide +kernel
theorem dX3_part_27 : decode cX3_part 27 = .ok (.ireturn, 1) := by decide +kernel
set_option maxRecDepth 20000 in
theorem ggX3_count_X3_isWithin : GoodIn wsX3_count wsX3_isWithin := goodIn_r _ [5] (by decide +kernel) (by decide +kernel)
set_option maxRecDepth 20000 in
theorem gX3_count_X3_isWithin : GoodIn wsX3_count (va_wsS RX3 37 yX3_isWithin wsX3_isWithin) := goodIn_app (goodIn_of _ (by decide +kernel)) ggX3_count_X3_isWithin
set_option maxRecDepth 20000 in
theorem ggX3_count_X3_needArgument : GoodIn wsX3_count wsX3_needArgument := goodIn_ca (goodIn_r _ [8, 9, 10] (by decide +kernel) (by decide +kernel)) (goodIn_sub (fun _ h => List.mem_cons_of_mem _ (List.mem_append_right _ h)) (by decide +kernel))
set_option maxRecDepth 20000 in
theorem gX3_count_X3_needArgument : GoodIn wsX3_count (va_wsS RX3 41 yX3_needArgument wsX3_needArgument) := goodIn_app (goodIn_of _ (by decide +kernel)) ggX3_count_X3_needArgument
set_option maxRecDepth 20000 in
theorem ggX3_count_X0_openParts : GoodIn wsX3_count wsX0_openParts := goodIn_r _ [14, 15, 16, 17, 12, 18, 19, 20, 21, 22, 23, 24, 25, 26, 27, 4, 28, 29, 30, 31, 32, 33, 34, 35, 36, 37, 38, 39, 40, 41, 42, 43, 44, 85, 86, 87, 88, 89, 90, 91] (by decide +kernel) (by decide +kernel)
set_option maxRecDepth 20000 in
theorem gX3_count_X0_openParts_n83 : GoodIn wsX3_count (wsX0_openParts) := ggX3_count_X0_openParts
set_option maxRecDepth 20000 in
theorem ggX3_count_X3_ofForm : GoodIn wsX3_count wsX3_ofForm := goodIn_r _ [48, 1, 49, 50, 12, 51, 52, 19, 53, 54, 55, 29, 30, 31, 32, 33, 27, 4, 28, 34, 35, 56, 57, 58, 59, 60, 61, 62, 41, 42, 43, 44, 25, 20, 63, 64, 65, 66, 67, 68, 69, 70, 71, 72, 73, 74, 75, 76, 77, 78, 79, 80, 81, 82, 83, 84, 85, 86, 87, 88, 89, 90, 91, 92, 93, 94] (by decide +kernel) (by decide +kernel)
set_option maxRecDepth 20000 in
theorem gX3_count_X3_ofForm : GoodIn wsX3_count (wsV RX3 122 RX3 yX3_ofForm wsX3_ofForm) := goodIn_app (goodIn_of _ (by decide +kernel)) ggX3_count_X3_ofForm
theorem dX3_count_0 : decode cX3_count 0 = .ok (.iload_n 1, 1) := by decide +kernel
theorem dX3_count_1 : decode cX3_count 1 = .ok (.iconst 0, 1) := by decide +kernel
theorem dX3_count_2 : decode cX3_count 2 = .ok (.bipush 8, 2) := by decide +kernel
theorem dX3_count_4 : decode cX3_count 4 = .ok (.invokestatic 37, 3) := by decide +kernel
theorem dX3_count_7 : decode cX3_count 7 = .ok (.invokestatic 41, 3) := by decide +kernel
theorem dX3_count_10 : decode cX3_count 10 = .ok (.aload_n 0, 1) := by decide +kernel
theorem dX3_count_11 : decode cX3_count 11 = .ok (.iload_n 1, 1) := by decide +kernel
theorem dX3_count_12 : decode cX3_count 12 = .ok (.aload_n 0, 1) := by decide +kernel
theorem dX3_count_13 : decode cX3_count 13 = .ok (.getfield 10, 3) := by decide +kernel
theorem dX3_count_16 : decode cX3_count 16 = .ok (.invokevirtual 83, 3) := by decide +kernel
theorem dX3_count_19 : decode cX3_count 19 = .ok (.invokevirtual 122, 3) := by decide +kernel
theorem dX3_count_22 : decode cX3_count 22 = .ok (.ireturn, 1) := by decide +kernel
set_option maxRecDepth 20000 in
theorem ggX3_ifAnswered_X3_needBox : GoodIn wsX3_ifAnswered wsX3_needBox := goodIn_ca (goodIn_r _ [6, 7, 8, 1, 9, 10, 11, 12, 13, 104, 105, 106, 107, 108, 109, 110, 111, 112, 113, 114] (by decide +kernel) (by decide +kernel)) (goodIn_sub (fun _ h => List.mem_cons_of_mem _ (List.mem_append_left _ (List.mem_append_right _ h))) (by decide +kernel))
set_option maxRecDepth 20000 in
theorem gX3_ifAnswered_X3_needBox : GoodIn wsX3_ifAnswered (wsV RX3 72 RX3 yX3_needBox wsX3_needBox) := goodIn_app (goodIn_of _ (by decide +kernel)) ggX3_ifAnswered_X3_needBox
set_option maxRecDepth 20000 in
theorem ggX3_ifAnswered_X0_fits : GoodIn wsX3_ifAnswered wsX0_fits := goodIn_r _ [16, 17, 18, 19, 10, 20, 21, 22, 23, 5, 24, 25, 26, 27, 28, 29, 108, 109, 110, 111, 112, 113, 114] (by decide +kernel) (by decide +kernel)
set_option maxRecDepth 20000 in
theorem gX3_ifAnswered_X0_fits_n76 : GoodIn wsX3_ifAnswered (wsX0_fits) := ggX3_ifAnswered_X0_fits
set_option maxRecDepth 20000 in
theorem ggX3_ifAnswered_X3_isWithin : GoodIn wsX3_ifAnswered wsX3_isWithin := goodIn_r _ [29] (by decide +kernel) (by decide +kernel)
set_option maxRecDepth 20000 in
theorem gX3_ifAnswered_X3_isWithin : GoodIn wsX3_ifAnswered (va_wsS RX3 37 yX3_isWithin wsX3_isWithin) := goodIn_app (goodIn_of _ (by decide +kernel)) ggX3_ifAnswered_X3_isWithin
set_option maxRecDepth 20000 in
theorem ggX3_ifAnswered_X3_needArgument : GoodIn wsX3_ifAnswered wsX3_needArgument := goodIn_ca (goodIn_r _ [33, 34, 35] (by decide +kernel) (by decide +kernel)) (goodIn_sub (fun _ h => List.mem_cons_of_mem _ (List.mem_append_right _ h)) (by decide +kernel))
set_option maxRecDepth 20000 in
theorem gX3_ifAnswered_X3_needArgument : GoodIn wsX3_ifAnswered (va_wsS RX3 41 yX3_needArgument wsX3_needArgument) := goodIn_app (goodIn_of _ (by decide +kernel)) ggX3_ifAnswered_X3_needArgument
set_option maxRecDepth 20000 in
theorem ggX3_ifAnswered_X3_ofTrial : GoodIn wsX3_ifAnswered wsX3_ofTrial := goodIn_r _ [39, 40, 1, 41, 10, 42, 43, 13, 21, 44, 22, 45, 46, 23, 5, 24, 47, 48, 49, 50, 51, 52, 53, 54, 55, 56, 57, 58, 59, 60, 61, 62, 63, 64, 65, 66, 67, 68, 69, 70, 71, 72, 73, 74, 75, 76, 77, 78, 79, 80, 81, 82, 83, 84, 85, 86, 87, 88, 89, 90, 91, 92, 93, 94, 95, 96, 97, 98, 99, 100, 101, 102, 103, 104, 105, 106, 107, 108, 109, 110, 111, 112, 113, 114] (by decide +kernel) (by decide +kernel)
set_option maxRecDepth 20000 in
theorem gX3_ifAnswered_X3_ofTrial : GoodIn wsX3_ifAnswered (wsV RX3 126 RX3 yX3_ofTrial wsX3_ofTrial) := goodIn_app (goodIn_of _ (by decide +kernel)) ggX3_ifAnswered_X3_ofTrial
theorem dX3_ifAnswered_0 : decode cX3_ifAnswered 0 = .ok (.aload_n 0, 1) := by decide +kernel
theorem dX3_ifAnswered_1 : decode cX3_ifAnswered 1 = .ok (.iload_n 1, 1) := by decide +kernel
theorem dX3_ifAnswered_2 : decode cX3_ifAnswered 2 = .ok (.invokevirtual 72, 3) := by decide +kernel
theorem dX3_ifAnswered_5 : decode cX3_ifAnswered 5 = .ok (.aload_n 0, 1) := by decide +kernel
theorem dX3_ifAnswered_6 : decode cX3_ifAnswered 6 = .ok (.getfield 10, 3) := by decide +kernel
theorem dX3_ifAnswered_9 : decode cX3_ifAnswered 9 = .ok (.iload_n 1, 1) := by decide +kernel
theorem dX3_ifAnswered_10 : decode cX3_ifAnswered 10 = .ok (.iload_n 2, 1) := by decide +kernel
theorem dX3_ifAnswered_11 : decode cX3_ifAnswered 11 = .ok (.invokevirtual 76, 3) := by decide +kernel
theorem dX3_ifAnswered_14 : decode cX3_ifAnswered 14 = .ok (.ifCond .eq 16, 3) := by decide +kernel
theorem dX3_ifAnswered_17 : decode cX3_ifAnswered 17 = .ok (.iload_n 3, 1) := by decide +kernel
theorem dX3_ifAnswered_18 : decode cX3_ifAnswered 18 = .ok (.iconst 0, 1) := by decide +kernel
theorem dX3_ifAnswered_19 : decode cX3_ifAnswered 19 = .ok (.iconst 2, 1) := by decide +kernel
theorem dX3_ifAnswered_20 : decode cX3_ifAnswered 20 = .ok (.invokestatic 37, 3) := by decide +kernel
theorem dX3_ifAnswered_23 : decode cX3_ifAnswered 23 = .ok (.ifCond .eq 7, 3) := by decide +kernel
theorem dX3_ifAnswered_26 : decode cX3_ifAnswered 26 = .ok (.iconst 1, 1) := by decide +kernel
theorem dX3_ifAnswered_27 : decode cX3_ifAnswered 27 = .ok (.goto 4, 3) := by decide +kernel
theorem dX3_ifAnswered_30 : decode cX3_ifAnswered 30 = .ok (.iconst 0, 1) := by decide +kernel
theorem dX3_ifAnswered_31 : decode cX3_ifAnswered 31 = .ok (.invokestatic 41, 3) := by decide +kernel
theorem dX3_ifAnswered_34 : decode cX3_ifAnswered 34 = .ok (.aload_n 0, 1) := by decide +kernel
theorem dX3_ifAnswered_35 : decode cX3_ifAnswered 35 = .ok (.iload_n 1, 1) := by decide +kernel
theorem dX3_ifAnswered_36 : decode cX3_ifAnswered 36 = .ok (.iload_n 2, 1) := by decide +kernel
theorem dX3_ifAnswered_37 : decode cX3_ifAnswered 37 = .ok (.iload_n 3, 1) := by decide +kernel
theorem dX3_ifAnswered_38 : decode cX3_ifAnswered 38 = .ok (.invokevirtual 126, 3) := by decide +kernel
theorem dX3_ifAnswered_41 : decode cX3_ifAnswered 41 = .ok (.ireturn, 1) := by decide +kernel
set_option maxRecDepth 20000 in
theorem ggX3_shortest_X0_canComeTo : GoodIn wsX3_shortest wsX0_canComeTo := goodIn_r _ [9, 10, 11, 12, 13, 14, 15, 7, 16, 17, 18, 19, 20, 21, 22, 23, 24, 25, 26, 27, 28, 29, 30, 31, 32, 33, 34, 35, 36, 37, 38, 39, 40, 41, 42, 43, 44, 45, 46, 47, 48, 49, 50, 51, 52, 64, 65, 66, 67, 68, 69, 70] (by decide +kernel) (by decide +kernel)
set_option maxRecDepth 20000 in
theorem gX3_shortest_X0_canComeTo_n129 : GoodIn wsX3_shortest (wsX0_canComeTo) := ggX3_shortest_X0_canComeTo
set_option maxRecDepth 20000 in
theorem ggX3_shortest_X0_wanting : GoodIn wsX3_shortest wsX0_wanting := goodIn_r _ [55, 21, 56, 57, 58, 7, 59, 31, 32, 33, 34, 35, 29, 11, 30, 10, 12, 41, 42, 43, 44, 27, 22, 64, 65, 66, 67, 68, 69, 70] (by decide +kernel) (by decide +kernel)
set_option maxRecDepth 20000 in
theorem gX3_shortest_X0_wanting_n86 : GoodIn wsX3_shortest (wsX0_wanting) := ggX3_shortest_X0_wanting
theorem dX3_shortest_0 : decode cX3_shortest 0 = .ok (.bipush 16, 2) := by decide +kernel
theorem dX3_shortest_2 : decode cX3_shortest 2 = .ok (.istore_n 1, 1) := by decide +kernel
theorem dX3_shortest_3 : decode cX3_shortest 3 = .ok (.iconst 1, 1) := by decide +kernel
theorem dX3_shortest_4 : decode cX3_shortest 4 = .ok (.istore_n 2, 1) := by decide +kernel
theorem dX3_shortest_5 : decode cX3_shortest 5 = .ok (.iload_n 2, 1) := by decide +kernel
theorem dX3_shortest_6 : decode cX3_shortest 6 = .ok (.bipush 32, 2) := by decide +kernel
theorem dX3_shortest_8 : decode cX3_shortest 8 = .ok (.if_icmp .ge 33, 3) := by decide +kernel
theorem dX3_shortest_11 : decode cX3_shortest 11 = .ok (.aload_n 0, 1) := by decide +kernel
theorem dX3_shortest_12 : decode cX3_shortest 12 = .ok (.getfield 10, 3) := by decide +kernel
theorem dX3_shortest_15 : decode cX3_shortest 15 = .ok (.iload_n 2, 1) := by decide +kernel
theorem dX3_shortest_16 : decode cX3_shortest 16 = .ok (.invokevirtual 129, 3) := by decide +kernel
theorem dX3_shortest_19 : decode cX3_shortest 19 = .ok (.ifCond .eq 16, 3) := by decide +kernel
theorem dX3_shortest_22 : decode cX3_shortest 22 = .ok (.iload_n 1, 1) := by decide +kernel
theorem dX3_shortest_23 : decode cX3_shortest 23 = .ok (.aload_n 0, 1) := by decide +kernel
theorem dX3_shortest_24 : decode cX3_shortest 24 = .ok (.getfield 10, 3) := by decide +kernel
theorem dX3_shortest_27 : decode cX3_shortest 27 = .ok (.iload_n 2, 1) := by decide +kernel
theorem dX3_shortest_28 : decode cX3_shortest 28 = .ok (.invokevirtual 86, 3) := by decide +kernel
theorem dX3_shortest_31 : decode cX3_shortest 31 = .ok (.invokestatic 132, 3) := by decide +kernel
theorem dX3_shortest_34 : decode cX3_shortest 34 = .ok (.istore_n 1, 1) := by decide +kernel
theorem dX3_shortest_35 : decode cX3_shortest 35 = .ok (.iinc 2 2, 3) := by decide +kernel
theorem dX3_shortest_38 : decode cX3_shortest 38 = .ok (.goto (-33), 3) := by decide +kernel
theorem dX3_shortest_41 : decode cX3_shortest 41 = .ok (.iload_n 1, 1) := by decide +kernel
theorem dX3_shortest_42 : decode cX3_shortest 42 = .ok (.ireturn, 1) := by decide +kernel
set_option maxRecDepth 20000 in
theorem ggX3_mostCarried_X0_size : GoodIn wsX3_mostCarried wsX0_size := goodIn_r _ [5, 6, 28, 29, 30, 31, 32, 33, 34] (by decide +kernel) (by decide +kernel)
set_option maxRecDepth 20000 in
theorem gX3_mostCarried_X0_size_n54 : GoodIn wsX3_mostCarried (wsX0_size) := ggX3_mostCarried_X0_size
set_option maxRecDepth 20000 in
theorem ggX3_mostCarried_X0_totalsOver : GoodIn wsX3_mostCarried wsX0_totalsOver := goodIn_r _ [9, 6, 10, 11, 12, 13, 14, 15, 16, 17, 18, 19, 20, 21, 22, 23, 28, 29, 30, 31, 32, 33, 34] (by decide +kernel) (by decide +kernel)
set_option maxRecDepth 20000 in
theorem gX3_mostCarried_X0_totalsOver_n137 : GoodIn wsX3_mostCarried (wsX0_totalsOver) := ggX3_mostCarried_X0_totalsOver
theorem dX3_mostCarried_0 : decode cX3_mostCarried 0 = .ok (.iconst (-1), 1) := by decide +kernel
theorem dX3_mostCarried_1 : decode cX3_mostCarried 1 = .ok (.istore_n 1, 1) := by decide +kernel
theorem dX3_mostCarried_2 : decode cX3_mostCarried 2 = .ok (.iconst 0, 1) := by decide +kernel
theorem dX3_mostCarried_3 : decode cX3_mostCarried 3 = .ok (.istore_n 2, 1) := by decide +kernel
theorem dX3_mostCarried_4 : decode cX3_mostCarried 4 = .ok (.aload_n 0, 1) := by decide +kernel
theorem dX3_mostCarried_5 : decode cX3_mostCarried 5 = .ok (.getfield 10, 3) := by decide +kernel
theorem dX3_mostCarried_8 : decode cX3_mostCarried 8 = .ok (.invokevirtual 54, 3) := by decide +kernel
theorem dX3_mostCarried_11 : decode cX3_mostCarried 11 = .ok (.istore_n 3, 1) := by decide +kernel
theorem dX3_mostCarried_12 : decode cX3_mostCarried 12 = .ok (.iconst 0, 1) := by decide +kernel
theorem dX3_mostCarried_13 : decode cX3_mostCarried 13 = .ok (.istore 4, 2) := by decide +kernel
theorem dX3_mostCarried_15 : decode cX3_mostCarried 15 = .ok (.iload 4, 2) := by decide +kernel
theorem dX3_mostCarried_17 : decode cX3_mostCarried 17 = .ok (.iload_n 3, 1) := by decide +kernel
theorem dX3_mostCarried_18 : decode cX3_mostCarried 18 = .ok (.if_icmp .ge 32, 3) := by decide +kernel
theorem dX3_mostCarried_21 : decode cX3_mostCarried 21 = .ok (.aload_n 0, 1) := by decide +kernel
theorem dX3_mostCarried_22 : decode cX3_mostCarried 22 = .ok (.getfield 10, 3) := by decide +kernel
theorem dX3_mostCarried_25 : decode cX3_mostCarried 25 = .ok (.iload 4, 2) := by decide +kernel
theorem dX3_mostCarried_27 : decode cX3_mostCarried 27 = .ok (.invokevirtual 137, 3) := by decide +kernel
theorem dX3_mostCarried_30 : decode cX3_mostCarried 30 = .ok (.istore 5, 2) := by decide +kernel
theorem dX3_mostCarried_32 : decode cX3_mostCarried 32 = .ok (.iload 5, 2) := by decide +kernel
theorem dX3_mostCarried_34 : decode cX3_mostCarried 34 = .ok (.iload_n 2, 1) := by decide +kernel
theorem dX3_mostCarried_35 : decode cX3_mostCarried 35 = .ok (.if_icmp .le 9, 3) := by decide +kernel
theorem dX3_mostCarried_38 : decode cX3_mostCarried 38 = .ok (.iload 5, 2) := by decide +kernel
theorem dX3_mostCarried_40 : decode cX3_mostCarried 40 = .ok (.istore_n 2, 1) := by decide +kernel
theorem dX3_mostCarried_41 : decode cX3_mostCarried 41 = .ok (.iload 4, 2) := by decide +kernel
theorem dX3_mostCarried_43 : decode cX3_mostCarried 43 = .ok (.istore_n 1, 1) := by decide +kernel
theorem dX3_mostCarried_44 : decode cX3_mostCarried 44 = .ok (.iinc 4 1, 3) := by decide +kernel
theorem dX3_mostCarried_47 : decode cX3_mostCarried 47 = .ok (.goto (-32), 3) := by decide +kernel
theorem dX3_mostCarried_50 : decode cX3_mostCarried 50 = .ok (.iload_n 1, 1) := by decide +kernel
theorem dX3_mostCarried_51 : decode cX3_mostCarried 51 = .ok (.ireturn, 1) := by decide +kernel
set_option maxRecDepth 20000 in
theorem ggX3_filled_X0_openParts : GoodIn wsX3_filled wsX0_openParts := goodIn_r _ [5, 6, 7, 8, 3, 9, 10, 11, 12, 13, 14, 15, 16, 17, 18, 19, 20, 21, 22, 23, 24, 25, 26, 27, 28, 29, 30, 31, 32, 33, 34, 35, 36, 51, 52, 53, 54, 55, 56, 57] (by decide +kernel) (by decide +kernel)
set_option maxRecDepth 20000 in
theorem gX3_filled_X0_openParts_n83 : GoodIn wsX3_filled (wsX0_openParts) := ggX3_filled_X0_openParts
set_option maxRecDepth 20000 in
theorem ggX3_filled_X0_openToAnswer : GoodIn wsX3_filled wsX0_openToAnswer := goodIn_r _ [39, 10, 16, 21, 22, 23, 3, 24, 25, 18, 19, 20, 26, 27, 51, 52, 53, 54, 55, 56, 57] (by decide +kernel) (by decide +kernel)
set_option maxRecDepth 20000 in
theorem gX3_filled_X0_openToAnswer_n140 : GoodIn wsX3_filled (wsX0_openToAnswer) := ggX3_filled_X0_openToAnswer
set_option maxRecDepth 20000 in
theorem ggX3_filled_X0_wanting : GoodIn wsX3_filled wsX0_wanting := goodIn_r _ [42, 10, 43, 44, 45, 3, 46, 21, 22, 23, 24, 25, 18, 19, 20, 26, 27, 33, 34, 35, 36, 16, 11, 51, 52, 53, 54, 55, 56, 57] (by decide +kernel) (by decide +kernel)
set_option maxRecDepth 20000 in
theorem gX3_filled_X0_wanting_n86 : GoodIn wsX3_filled (wsX0_wanting) := ggX3_filled_X0_wanting
theorem dX3_filled_0 : decode cX3_filled 0 = .ok (.aload_n 0, 1) := by decide +kernel
theorem dX3_filled_1 : decode cX3_filled 1 = .ok (.getfield 10, 3) := by decide +kernel
theorem dX3_filled_4 : decode cX3_filled 4 = .ok (.invokevirtual 83, 3) := by decide +kernel
theorem dX3_filled_7 : decode cX3_filled 7 = .ok (.istore_n 1, 1) := by decide +kernel
theorem dX3_filled_8 : decode cX3_filled 8 = .ok (.aload_n 0, 1) := by decide +kernel
theorem dX3_filled_9 : decode cX3_filled 9 = .ok (.getfield 10, 3) := by decide +kernel
theorem dX3_filled_12 : decode cX3_filled 12 = .ok (.iload_n 1, 1) := by decide +kernel
theorem dX3_filled_13 : decode cX3_filled 13 = .ok (.invokevirtual 140, 3) := by decide +kernel
theorem dX3_filled_16 : decode cX3_filled 16 = .ok (.istore_n 2, 1) := by decide +kernel
theorem dX3_filled_17 : decode cX3_filled 17 = .ok (.iload_n 2, 1) := by decide +kernel
theorem dX3_filled_18 : decode cX3_filled 18 = .ok (.ifCond .gt 5, 3) := by decide +kernel
theorem dX3_filled_21 : decode cX3_filled 21 = .ok (.dconst 1, 1) := by decide +kernel
theorem dX3_filled_22 : decode cX3_filled 22 = .ok (.dreturn, 1) := by decide +kernel
theorem dX3_filled_23 : decode cX3_filled 23 = .ok (.iload_n 2, 1) := by decide +kernel
theorem dX3_filled_24 : decode cX3_filled 24 = .ok (.aload_n 0, 1) := by decide +kernel
theorem dX3_filled_25 : decode cX3_filled 25 = .ok (.getfield 10, 3) := by decide +kernel
theorem dX3_filled_28 : decode cX3_filled 28 = .ok (.iload_n 1, 1) := by decide +kernel
theorem dX3_filled_29 : decode cX3_filled 29 = .ok (.invokevirtual 86, 3) := by decide +kernel
theorem dX3_filled_32 : decode cX3_filled 32 = .ok (.isub, 1) := by decide +kernel
theorem dX3_filled_33 : decode cX3_filled 33 = .ok (.i2d, 1) := by decide +kernel
theorem dX3_filled_34 : decode cX3_filled 34 = .ok (.iload_n 2, 1) := by decide +kernel
theorem dX3_filled_35 : decode cX3_filled 35 = .ok (.i2d, 1) := by decide +kernel
theorem dX3_filled_36 : decode cX3_filled 36 = .ok (.ddiv, 1) := by decide +kernel
theorem dX3_filled_37 : decode cX3_filled 37 = .ok (.dreturn, 1) := by decide +kernel
theorem dX3_isWithin_0 : decode cX3_isWithin 0 = .ok (.iload_n 0, 1) := by decide +kernel
theorem dX3_isWithin_1 : decode cX3_isWithin 1 = .ok (.iload_n 1, 1) := by decide +kernel
theorem dX3_isWithin_2 : decode cX3_isWithin 2 = .ok (.if_icmp .lt 12, 3) := by decide +kernel
theorem dX3_isWithin_5 : decode cX3_isWithin 5 = .ok (.iload_n 0, 1) := by decide +kernel
theorem dX3_isWithin_6 : decode cX3_isWithin 6 = .ok (.iload_n 2, 1) := by decide +kernel
theorem dX3_isWithin_7 : decode cX3_isWithin 7 = .ok (.if_icmp .gt 7, 3) := by decide +kernel
theorem dX3_isWithin_10 : decode cX3_isWithin 10 = .ok (.iconst 1, 1) := by decide +kernel
theorem dX3_isWithin_11 : decode cX3_isWithin 11 = .ok (.goto 4, 3) := by decide +kernel
theorem dX3_isWithin_14 : decode cX3_isWithin 14 = .ok (.iconst 0, 1) := by decide +kernel
theorem dX3_isWithin_15 : decode cX3_isWithin 15 = .ok (.ireturn, 1) := by decide +kernel
set_option maxRecDepth 20000 in
theorem ggX3_needPart_X3_isWithin : GoodIn wsX3_needPart wsX3_isWithin := goodIn_r _ [6] (by decide +kernel) (by decide +kernel)
set_option maxRecDepth 20000 in
theorem gX3_needPart_X3_isWithin : GoodIn wsX3_needPart (va_wsS RX3 37 yX3_isWithin wsX3_isWithin) := goodIn_app (goodIn_of _ (by decide +kernel)) ggX3_needPart_X3_isWithin
theorem dX3_needPart_0 : decode cX3_needPart 0 = .ok (.iload_n 0, 1) := by decide +kernel
theorem dX3_needPart_1 : decode cX3_needPart 1 = .ok (.iconst 0, 1) := by decide +kernel
theorem dX3_needPart_2 : decode cX3_needPart 2 = .ok (.iload_n 1, 1) := by decide +kernel
theorem dX3_needPart_3 : decode cX3_needPart 3 = .ok (.invokestatic 37, 3) := by decide +kernel
theorem dX3_needPart_6 : decode cX3_needPart 6 = .ok (.ifCond .ne 13, 3) := by decide +kernel
theorem dX3_needPart_9 : decode cX3_needPart 9 = .ok (.new 176, 3) := by decide +kernel
theorem dX3_needPart_12 : decode cX3_needPart 12 = .ok (.dup, 1) := by decide +kernel
theorem dX3_needPart_13 : decode cX3_needPart 13 = .ok (.ldc 178, 2) := by decide +kernel
theorem dX3_needPart_15 : decode cX3_needPart 15 = .ok (.invokespecial 180, 3) := by decide +kernel
theorem dX3_needPart_18 : decode cX3_needPart 18 = .ok (.athrow, 1) := by decide +kernel
theorem dX3_needPart_19 : decode cX3_needPart 19 = .ok (.return_, 1) := by decide +kernel
set_option maxRecDepth 20000 in
theorem ggX3_needBox_X0_has : GoodIn wsX3_needBox wsX0_has := goodIn_r _ [7, 8, 13, 14, 15, 16, 17, 18, 19] (by decide +kernel) (by decide +kernel)
set_option maxRecDepth 20000 in
theorem gX3_needBox_X0_has_n183 : GoodIn wsX3_needBox (wsX0_has) := ggX3_needBox_X0_has
theorem dX3_needBox_0 : decode cX3_needBox 0 = .ok (.aload_n 0, 1) := by decide +kernel
theorem dX3_needBox_1 : decode cX3_needBox 1 = .ok (.getfield 10, 3) := by decide +kernel
theorem dX3_needBox_4 : decode cX3_needBox 4 = .ok (.iload_n 1, 1) := by decide +kernel
theorem dX3_needBox_5 : decode cX3_needBox 5 = .ok (.invokevirtual 183, 3) := by decide +kernel
theorem dX3_needBox_8 : decode cX3_needBox 8 = .ok (.ifCond .ne 13, 3) := by decide +kernel
theorem dX3_needBox_11 : decode cX3_needBox 11 = .ok (.new 176, 3) := by decide +kernel
theorem dX3_needBox_14 : decode cX3_needBox 14 = .ok (.dup, 1) := by decide +kernel
theorem dX3_needBox_15 : decode cX3_needBox 15 = .ok (.ldc 186, 2) := by decide +kernel
theorem dX3_needBox_17 : decode cX3_needBox 17 = .ok (.invokespecial 180, 3) := by decide +kernel
theorem dX3_needBox_20 : decode cX3_needBox 20 = .ok (.athrow, 1) := by decide +kernel
theorem dX3_needBox_21 : decode cX3_needBox 21 = .ok (.return_, 1) := by decide +kernel
theorem dX3_needArgument_0 : decode cX3_needArgument 0 = .ok (.iload_n 0, 1) := by decide +kernel
theorem dX3_needArgument_1 : decode cX3_needArgument 1 = .ok (.ifCond .ne 13, 3) := by decide +kernel
theorem dX3_needArgument_4 : decode cX3_needArgument 4 = .ok (.new 188, 3) := by decide +kernel
theorem dX3_needArgument_7 : decode cX3_needArgument 7 = .ok (.dup, 1) := by decide +kernel
theorem dX3_needArgument_8 : decode cX3_needArgument 8 = .ok (.ldc 190, 2) := by decide +kernel
theorem dX3_needArgument_10 : decode cX3_needArgument 10 = .ok (.invokespecial 192, 3) := by decide +kernel
theorem dX3_needArgument_13 : decode cX3_needArgument 13 = .ok (.athrow, 1) := by decide +kernel
theorem dX3_needArgument_14 : decode cX3_needArgument 14 = .ok (.return_, 1) := by decide +kernel
theorem dX3_needState_0 : decode cX3_needState 0 = .ok (.iload_n 0, 1) := by decide +kernel
theorem dX3_needState_1 : decode cX3_needState 1 = .ok (.ifCond .ne 13, 3) := by decide +kernel
theorem dX3_needState_4 : decode cX3_needState 4 = .ok (.new 193, 3) := by decide +kernel
theorem dX3_needState_7 : decode cX3_needState 7 = .ok (.dup, 1) := by decide +kernel
theorem dX3_needState_8 : decode cX3_needState 8 = .ok (.ldc 195, 2) := by decide +kernel
theorem dX3_needState_10 : decode cX3_needState 10 = .ok (.invokespecial 197, 3) := by decide +kernel
theorem dX3_needState_13 : decode cX3_needState 13 = .ok (.athrow, 1) := by decide +kernel
theorem dX3_needState_14 : decode cX3_needState 14 = .ok (.return_, 1) := by decide +kernel
theorem dX3_at_0 : decode cX3_at 0 = .ok (.iload_n 1, 1) := by decide +kernel
theorem dX3_at_1 : decode cX3_at 1 = .ok (.ifCond .lt 15, 3) := by decide +kernel
theorem dX3_at_4 : decode cX3_at 4 = .ok (.iload_n 1, 1) := by decide +kernel
theorem dX3_at_5 : decode cX3_at 5 = .ok (.aload_n 0, 1) := by decide +kernel
theorem dX3_at_6 : decode cX3_at 6 = .ok (.arraylength, 1) := by decide +kernel
theorem dX3_at_7 : decode cX3_at 7 = .ok (.if_icmp .ge 9, 3) := by decide +kernel
theorem dX3_at_10 : decode cX3_at 10 = .ok (.aload_n 0, 1) := by decide +kernel
theorem dX3_at_11 : decode cX3_at 11 = .ok (.iload_n 1, 1) := by decide +kernel
theorem dX3_at_12 : decode cX3_at 12 = .ok (.iaload, 1) := by decide +kernel
theorem dX3_at_13 : decode cX3_at 13 = .ok (.goto 4, 3) := by decide +kernel
theorem dX3_at_16 : decode cX3_at 16 = .ok (.iconst (-1), 1) := by decide +kernel
theorem dX3_at_17 : decode cX3_at 17 = .ok (.ireturn, 1) := by decide +kernel
theorem dX3_put_0 : decode cX3_put 0 = .ok (.iload_n 1, 1) := by decide +kernel
theorem dX3_put_1 : decode cX3_put 1 = .ok (.ifCond .lt 13, 3) := by decide +kernel
theorem dX3_put_4 : decode cX3_put 4 = .ok (.iload_n 1, 1) := by decide +kernel
theorem dX3_put_5 : decode cX3_put 5 = .ok (.aload_n 0, 1) := by decide +kernel
theorem dX3_put_6 : decode cX3_put 6 = .ok (.arraylength, 1) := by decide +kernel
theorem dX3_put_7 : decode cX3_put 7 = .ok (.if_icmp .ge 7, 3) := by decide +kernel
theorem dX3_put_10 : decode cX3_put 10 = .ok (.aload_n 0, 1) := by decide +kernel
theorem dX3_put_11 : decode cX3_put 11 = .ok (.iload_n 1, 1) := by decide +kernel
theorem dX3_put_12 : decode cX3_put 12 = .ok (.iload_n 2, 1) := by decide +kernel
theorem dX3_put_13 : decode cX3_put 13 = .ok (.iastore, 1) := by decide +kernel
theorem dX3_put_14 : decode cX3_put 14 = .ok (.return_, 1) := by decide +kernel
set_option maxRecDepth 20000 in
theorem ggX3_addNew_X0_size : GoodIn wsX3_addNew wsX0_size := goodIn_r _ [6, 7, 48, 49, 50, 51, 52, 53, 54] (by decide +kernel) (by decide +kernel)
set_option maxRecDepth 20000 in
theorem gX3_addNew_X0_size_n54 : GoodIn wsX3_addNew (wsX0_size) := ggX3_addNew_X0_size
set_option maxRecDepth 20000 in
theorem ggX3_addNew_X3_needState : GoodIn wsX3_addNew wsX3_needState := goodIn_ca (goodIn_r _ [11, 12, 13] (by decide +kernel) (by decide +kernel)) (goodIn_sub (fun _ h => List.mem_cons_of_mem _ (List.mem_append_right _ h)) (by decide +kernel))
set_option maxRecDepth 20000 in
theorem gX3_addNew_X3_needState : GoodIn wsX3_addNew (va_wsS RX3 58 yX3_needState wsX3_needState) := goodIn_app (goodIn_of _ (by decide +kernel)) ggX3_addNew_X3_needState
set_option maxRecDepth 20000 in
theorem ggX3_addNew_X1_save : GoodIn wsX3_addNew wsX1_save := goodIn_r _ [17, 18, 19, 20, 21, 22, 23, 24, 25, 26, 15, 27, 28, 29, 4, 30, 31, 7, 32, 33, 34, 35, 36, 37, 10, 38, 39, 40, 55, 56, 57, 48, 49, 50, 51, 52, 53, 54] (by decide +kernel) (by decide +kernel)
set_option maxRecDepth 20000 in
theorem gX3_addNew_X1_save_n61 : GoodIn wsX3_addNew (wsX1_save) := ggX3_addNew_X1_save
set_option maxRecDepth 20000 in
theorem ggX3_addNew_X0_add : GoodIn wsX3_addNew wsX0_add := goodIn_r _ [43, 32, 7, 33, 34, 35, 36, 39, 10, 40, 48, 49, 50, 51, 52, 53, 54] (by decide +kernel) (by decide +kernel)
set_option maxRecDepth 20000 in
theorem gX3_addNew_X0_add_n198 : GoodIn wsX3_addNew (wsX0_add) := ggX3_addNew_X0_add
theorem dX3_addNew_0 : decode cX3_addNew 0 = .ok (.aload_n 0, 1) := by decide +kernel
theorem dX3_addNew_1 : decode cX3_addNew 1 = .ok (.getfield 10, 3) := by decide +kernel
theorem dX3_addNew_4 : decode cX3_addNew 4 = .ok (.invokevirtual 54, 3) := by decide +kernel
theorem dX3_addNew_7 : decode cX3_addNew 7 = .ok (.bipush 16, 2) := by decide +kernel
theorem dX3_addNew_9 : decode cX3_addNew 9 = .ok (.if_icmp .ge 7, 3) := by decide +kernel
theorem dX3_addNew_12 : decode cX3_addNew 12 = .ok (.iconst 1, 1) := by decide +kernel
theorem dX3_addNew_13 : decode cX3_addNew 13 = .ok (.goto 4, 3) := by decide +kernel
theorem dX3_addNew_16 : decode cX3_addNew 16 = .ok (.iconst 0, 1) := by decide +kernel
theorem dX3_addNew_17 : decode cX3_addNew 17 = .ok (.invokestatic 58, 3) := by decide +kernel
theorem dX3_addNew_20 : decode cX3_addNew 20 = .ok (.aload_n 0, 1) := by decide +kernel
theorem dX3_addNew_21 : decode cX3_addNew 21 = .ok (.getfield 22, 3) := by decide +kernel
theorem dX3_addNew_24 : decode cX3_addNew 24 = .ok (.aload_n 0, 1) := by decide +kernel
theorem dX3_addNew_25 : decode cX3_addNew 25 = .ok (.getfield 10, 3) := by decide +kernel
theorem dX3_addNew_28 : decode cX3_addNew 28 = .ok (.invokevirtual 61, 3) := by decide +kernel
theorem dX3_addNew_31 : decode cX3_addNew 31 = .ok (.aload_n 0, 1) := by decide +kernel
theorem dX3_addNew_32 : decode cX3_addNew 32 = .ok (.getfield 10, 3) := by decide +kernel
theorem dX3_addNew_35 : decode cX3_addNew 35 = .ok (.iload_n 1, 1) := by decide +kernel
theorem dX3_addNew_36 : decode cX3_addNew 36 = .ok (.iload_n 2, 1) := by decide +kernel
theorem dX3_addNew_37 : decode cX3_addNew 37 = .ok (.iload_n 3, 1) := by decide +kernel
theorem dX3_addNew_38 : decode cX3_addNew 38 = .ok (.iload 4, 2) := by decide +kernel
theorem dX3_addNew_40 : decode cX3_addNew 40 = .ok (.invokevirtual 198, 3) := by decide +kernel
theorem dX3_addNew_43 : decode cX3_addNew 43 = .ok (.aload_n 0, 1) := by decide +kernel
