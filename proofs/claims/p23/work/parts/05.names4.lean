theorem dX3_addNew_44 : decode cX3_addNew 44 = .ok (.getfield 10, 3) := by decide +kernel
theorem dX3_addNew_47 : decode cX3_addNew 47 = .ok (.invokevirtual 54, 3) := by decide +kernel
theorem dX3_addNew_50 : decode cX3_addNew 50 = .ok (.iconst 1, 1) := by decide +kernel
theorem dX3_addNew_51 : decode cX3_addNew 51 = .ok (.isub, 1) := by decide +kernel
theorem dX3_addNew_52 : decode cX3_addNew 52 = .ok (.ireturn, 1) := by decide +kernel
set_option maxRecDepth 20000 in
theorem ggX3_ofBox_X0_kindOf : GoodIn wsX3_ofBox wsX0_kindOf := goodIn_r _ [5, 6, 7, 8, 9, 63, 64, 65, 66, 67, 68, 69] (by decide +kernel) (by decide +kernel)
set_option maxRecDepth 20000 in
theorem gX3_ofBox_X0_kindOf_n65 : GoodIn wsX3_ofBox (wsX0_kindOf) := ggX3_ofBox_X0_kindOf
set_option maxRecDepth 20000 in
theorem ggX3_ofBox_X0_partOf : GoodIn wsX3_ofBox wsX0_partOf := goodIn_r _ [12, 13, 7, 8, 9, 63, 64, 65, 66, 67, 68, 69] (by decide +kernel) (by decide +kernel)
set_option maxRecDepth 20000 in
theorem gX3_ofBox_X0_partOf_n201 : GoodIn wsX3_ofBox (wsX0_partOf) := ggX3_ofBox_X0_partOf
set_option maxRecDepth 20000 in
theorem ggX3_ofBox_X0_settingOf : GoodIn wsX3_ofBox wsX0_settingOf := goodIn_r _ [16, 17, 7, 8, 9, 63, 64, 65, 66, 67, 68, 69] (by decide +kernel) (by decide +kernel)
set_option maxRecDepth 20000 in
theorem gX3_ofBox_X0_settingOf_n204 : GoodIn wsX3_ofBox (wsX0_settingOf) := ggX3_ofBox_X0_settingOf
set_option maxRecDepth 20000 in
theorem ggX3_ofBox_X0_limitOf : GoodIn wsX3_ofBox wsX0_limitOf := goodIn_r _ [20, 21, 7, 8, 9, 63, 64, 65, 66, 67, 68, 69] (by decide +kernel) (by decide +kernel)
set_option maxRecDepth 20000 in
theorem gX3_ofBox_X0_limitOf_n207 : GoodIn wsX3_ofBox (wsX0_limitOf) := ggX3_ofBox_X0_limitOf
set_option maxRecDepth 20000 in
theorem ggX3_ofBox_X0_answerOf : GoodIn wsX3_ofBox wsX0_answerOf := goodIn_r _ [24, 25, 7, 8, 9, 63, 64, 65, 66, 67, 68, 69] (by decide +kernel) (by decide +kernel)
set_option maxRecDepth 20000 in
theorem gX3_ofBox_X0_answerOf_n210 : GoodIn wsX3_ofBox (wsX0_answerOf) := ggX3_ofBox_X0_answerOf
set_option maxRecDepth 20000 in
theorem ggX3_ofBox_X0_valueOf : GoodIn wsX3_ofBox wsX0_valueOf := goodIn_r _ [28, 29, 30, 6, 7, 8, 9, 31, 32, 33, 3, 34, 17, 35, 36, 37, 38, 39, 40, 41, 42, 43, 44, 45, 13, 46, 47, 48, 49, 25, 50, 51, 52, 53, 54, 55, 63, 64, 65, 66, 67, 68, 69] (by decide +kernel) (by decide +kernel)
set_option maxRecDepth 20000 in
theorem gX3_ofBox_X0_valueOf_n213 : GoodIn wsX3_ofBox (wsX0_valueOf) := ggX3_ofBox_X0_valueOf
set_option maxRecDepth 20000 in
theorem ggX3_ofBox_X0_isOpen : GoodIn wsX3_ofBox wsX0_isOpen := goodIn_r _ [45, 13, 7, 8, 9, 40, 41, 63, 64, 65, 66, 67, 68, 69] (by decide +kernel) (by decide +kernel)
set_option maxRecDepth 20000 in
theorem gX3_ofBox_X0_isOpen_n216 : GoodIn wsX3_ofBox (wsX0_isOpen) := ggX3_ofBox_X0_isOpen
set_option maxRecDepth 20000 in
theorem ggX3_ofBox_X0_wants : GoodIn wsX3_ofBox wsX0_wants := goodIn_r _ [58, 42, 43, 44, 3, 45, 13, 7, 8, 9, 40, 41, 50, 51, 52, 53, 6, 25, 63, 64, 65, 66, 67, 68, 69] (by decide +kernel) (by decide +kernel)
set_option maxRecDepth 20000 in
theorem gX3_ofBox_X0_wants_n219 : GoodIn wsX3_ofBox (wsX0_wants) := ggX3_ofBox_X0_wants
theorem dX3_ofBox_0 : decode cX3_ofBox 0 = .ok (.iload_n 2, 1) := by decide +kernel
theorem dX3_ofBox_1 : decode cX3_ofBox 1 = .ok (.tableswitch 116 0 6 #[43, 52, 61, 70, 79, 88, 98], 43) := by decide +kernel
theorem dX3_ofBox_44 : decode cX3_ofBox 44 = .ok (.aload_n 0, 1) := by decide +kernel
theorem dX3_ofBox_45 : decode cX3_ofBox 45 = .ok (.getfield 10, 3) := by decide +kernel
theorem dX3_ofBox_48 : decode cX3_ofBox 48 = .ok (.iload_n 1, 1) := by decide +kernel
theorem dX3_ofBox_49 : decode cX3_ofBox 49 = .ok (.invokevirtual 65, 3) := by decide +kernel
theorem dX3_ofBox_52 : decode cX3_ofBox 52 = .ok (.ireturn, 1) := by decide +kernel
theorem dX3_ofBox_53 : decode cX3_ofBox 53 = .ok (.aload_n 0, 1) := by decide +kernel
theorem dX3_ofBox_54 : decode cX3_ofBox 54 = .ok (.getfield 10, 3) := by decide +kernel
theorem dX3_ofBox_57 : decode cX3_ofBox 57 = .ok (.iload_n 1, 1) := by decide +kernel
theorem dX3_ofBox_58 : decode cX3_ofBox 58 = .ok (.invokevirtual 201, 3) := by decide +kernel
theorem dX3_ofBox_61 : decode cX3_ofBox 61 = .ok (.ireturn, 1) := by decide +kernel
theorem dX3_ofBox_62 : decode cX3_ofBox 62 = .ok (.aload_n 0, 1) := by decide +kernel
theorem dX3_ofBox_63 : decode cX3_ofBox 63 = .ok (.getfield 10, 3) := by decide +kernel
theorem dX3_ofBox_66 : decode cX3_ofBox 66 = .ok (.iload_n 1, 1) := by decide +kernel
theorem dX3_ofBox_67 : decode cX3_ofBox 67 = .ok (.invokevirtual 204, 3) := by decide +kernel
theorem dX3_ofBox_70 : decode cX3_ofBox 70 = .ok (.ireturn, 1) := by decide +kernel
theorem dX3_ofBox_71 : decode cX3_ofBox 71 = .ok (.aload_n 0, 1) := by decide +kernel
theorem dX3_ofBox_72 : decode cX3_ofBox 72 = .ok (.getfield 10, 3) := by decide +kernel
theorem dX3_ofBox_75 : decode cX3_ofBox 75 = .ok (.iload_n 1, 1) := by decide +kernel
theorem dX3_ofBox_76 : decode cX3_ofBox 76 = .ok (.invokevirtual 207, 3) := by decide +kernel
theorem dX3_ofBox_79 : decode cX3_ofBox 79 = .ok (.ireturn, 1) := by decide +kernel
theorem dX3_ofBox_80 : decode cX3_ofBox 80 = .ok (.aload_n 0, 1) := by decide +kernel
theorem dX3_ofBox_81 : decode cX3_ofBox 81 = .ok (.getfield 10, 3) := by decide +kernel
theorem dX3_ofBox_84 : decode cX3_ofBox 84 = .ok (.iload_n 1, 1) := by decide +kernel
theorem dX3_ofBox_85 : decode cX3_ofBox 85 = .ok (.invokevirtual 210, 3) := by decide +kernel
theorem dX3_ofBox_88 : decode cX3_ofBox 88 = .ok (.ireturn, 1) := by decide +kernel
theorem dX3_ofBox_89 : decode cX3_ofBox 89 = .ok (.aload_n 0, 1) := by decide +kernel
theorem dX3_ofBox_90 : decode cX3_ofBox 90 = .ok (.getfield 10, 3) := by decide +kernel
theorem dX3_ofBox_93 : decode cX3_ofBox 93 = .ok (.iload_n 1, 1) := by decide +kernel
theorem dX3_ofBox_94 : decode cX3_ofBox 94 = .ok (.iload_n 3, 1) := by decide +kernel
theorem dX3_ofBox_95 : decode cX3_ofBox 95 = .ok (.invokevirtual 213, 3) := by decide +kernel
theorem dX3_ofBox_98 : decode cX3_ofBox 98 = .ok (.ireturn, 1) := by decide +kernel
theorem dX3_ofBox_99 : decode cX3_ofBox 99 = .ok (.aload_n 0, 1) := by decide +kernel
theorem dX3_ofBox_100 : decode cX3_ofBox 100 = .ok (.getfield 10, 3) := by decide +kernel
theorem dX3_ofBox_103 : decode cX3_ofBox 103 = .ok (.iload_n 1, 1) := by decide +kernel
theorem dX3_ofBox_104 : decode cX3_ofBox 104 = .ok (.iload_n 3, 1) := by decide +kernel
theorem dX3_ofBox_105 : decode cX3_ofBox 105 = .ok (.invokevirtual 216, 3) := by decide +kernel
theorem dX3_ofBox_108 : decode cX3_ofBox 108 = .ok (.ifCond .eq 7, 3) := by decide +kernel
theorem dX3_ofBox_111 : decode cX3_ofBox 111 = .ok (.iconst 1, 1) := by decide +kernel
theorem dX3_ofBox_112 : decode cX3_ofBox 112 = .ok (.goto 4, 3) := by decide +kernel
theorem dX3_ofBox_115 : decode cX3_ofBox 115 = .ok (.iconst 0, 1) := by decide +kernel
theorem dX3_ofBox_116 : decode cX3_ofBox 116 = .ok (.ireturn, 1) := by decide +kernel
theorem dX3_ofBox_117 : decode cX3_ofBox 117 = .ok (.aload_n 0, 1) := by decide +kernel
theorem dX3_ofBox_118 : decode cX3_ofBox 118 = .ok (.getfield 10, 3) := by decide +kernel
theorem dX3_ofBox_121 : decode cX3_ofBox 121 = .ok (.iload_n 1, 1) := by decide +kernel
theorem dX3_ofBox_122 : decode cX3_ofBox 122 = .ok (.iload_n 3, 1) := by decide +kernel
theorem dX3_ofBox_123 : decode cX3_ofBox 123 = .ok (.invokevirtual 219, 3) := by decide +kernel
theorem dX3_ofBox_126 : decode cX3_ofBox 126 = .ok (.ifCond .eq 7, 3) := by decide +kernel
theorem dX3_ofBox_129 : decode cX3_ofBox 129 = .ok (.iconst 1, 1) := by decide +kernel
theorem dX3_ofBox_130 : decode cX3_ofBox 130 = .ok (.goto 4, 3) := by decide +kernel
theorem dX3_ofBox_133 : decode cX3_ofBox 133 = .ok (.iconst 0, 1) := by decide +kernel
theorem dX3_ofBox_134 : decode cX3_ofBox 134 = .ok (.ireturn, 1) := by decide +kernel
set_option maxRecDepth 20000 in
theorem ggX3_ofPart_X3_isInMask : GoodIn wsX3_ofPart wsX3_isInMask := goodIn_r _ [5] (by decide +kernel) (by decide +kernel)
set_option maxRecDepth 20000 in
theorem gX3_ofPart_X3_isInMask : GoodIn wsX3_ofPart (va_wsS RX3 222 yX3_isInMask wsX3_isInMask) := goodIn_app (goodIn_of _ (by decide +kernel)) ggX3_ofPart_X3_isInMask
set_option maxRecDepth 20000 in
theorem ggX3_ofPart_X0_boxesIn : GoodIn wsX3_ofPart wsX0_boxesIn := goodIn_r _ [9, 10, 11, 12, 4, 13, 47, 48, 49, 50, 51, 52, 53] (by decide +kernel) (by decide +kernel)
set_option maxRecDepth 20000 in
theorem gX3_ofPart_X0_boxesIn_n225 : GoodIn wsX3_ofPart (wsX0_boxesIn) := ggX3_ofPart_X0_boxesIn
set_option maxRecDepth 20000 in
theorem ggX3_ofPart_X0_wantingIn : GoodIn wsX3_ofPart wsX0_wantingIn := goodIn_r _ [16, 10, 11, 12, 4, 13, 17, 18, 19, 7, 20, 21, 22, 23, 24, 3, 5, 25, 26, 27, 28, 29, 30, 47, 48, 49, 50, 51, 52, 53] (by decide +kernel) (by decide +kernel)
set_option maxRecDepth 20000 in
theorem gX3_ofPart_X0_wantingIn_n228 : GoodIn wsX3_ofPart (wsX0_wantingIn) := ggX3_ofPart_X0_wantingIn
set_option maxRecDepth 20000 in
theorem ggX3_ofPart_X0_boxesFor : GoodIn wsX3_ofPart wsX0_boxesFor := goodIn_r _ [33, 10, 34, 35, 36, 7, 37, 29, 38, 12, 4, 13, 47, 48, 49, 50, 51, 52, 53] (by decide +kernel) (by decide +kernel)
set_option maxRecDepth 20000 in
theorem gX3_ofPart_X0_boxesFor_n231 : GoodIn wsX3_ofPart (wsX0_boxesFor) := ggX3_ofPart_X0_boxesFor
set_option maxRecDepth 20000 in
theorem ggX3_ofPart_X0_isSkipped : GoodIn wsX3_ofPart wsX0_isSkipped := goodIn_r _ [41, 10, 30, 42, 25, 26, 27, 7, 28, 29, 12, 4, 13, 34, 35, 36, 37, 38, 21, 22, 23, 24, 11, 3, 5, 47, 48, 49, 50, 51, 52, 53] (by decide +kernel) (by decide +kernel)
set_option maxRecDepth 20000 in
theorem gX3_ofPart_X0_isSkipped_n234 : GoodIn wsX3_ofPart (wsX0_isSkipped) := ggX3_ofPart_X0_isSkipped
theorem dX3_ofPart_0 : decode cX3_ofPart 0 = .ok (.iload_n 2, 1) := by decide +kernel
theorem dX3_ofPart_1 : decode cX3_ofPart 1 = .ok (.tableswitch 88 0 4 #[35, 49, 58, 68, 78], 35) := by decide +kernel
theorem dX3_ofPart_36 : decode cX3_ofPart 36 = .ok (.iload_n 1, 1) := by decide +kernel
theorem dX3_ofPart_37 : decode cX3_ofPart 37 = .ok (.iload_n 3, 1) := by decide +kernel
theorem dX3_ofPart_38 : decode cX3_ofPart 38 = .ok (.invokestatic 222, 3) := by decide +kernel
theorem dX3_ofPart_41 : decode cX3_ofPart 41 = .ok (.ifCond .eq 7, 3) := by decide +kernel
theorem dX3_ofPart_44 : decode cX3_ofPart 44 = .ok (.iconst 1, 1) := by decide +kernel
theorem dX3_ofPart_45 : decode cX3_ofPart 45 = .ok (.goto 4, 3) := by decide +kernel
theorem dX3_ofPart_48 : decode cX3_ofPart 48 = .ok (.iconst 0, 1) := by decide +kernel
theorem dX3_ofPart_49 : decode cX3_ofPart 49 = .ok (.ireturn, 1) := by decide +kernel
theorem dX3_ofPart_50 : decode cX3_ofPart 50 = .ok (.aload_n 0, 1) := by decide +kernel
theorem dX3_ofPart_51 : decode cX3_ofPart 51 = .ok (.getfield 10, 3) := by decide +kernel
theorem dX3_ofPart_54 : decode cX3_ofPart 54 = .ok (.iload_n 1, 1) := by decide +kernel
theorem dX3_ofPart_55 : decode cX3_ofPart 55 = .ok (.invokevirtual 225, 3) := by decide +kernel
theorem dX3_ofPart_58 : decode cX3_ofPart 58 = .ok (.ireturn, 1) := by decide +kernel
theorem dX3_ofPart_59 : decode cX3_ofPart 59 = .ok (.aload_n 0, 1) := by decide +kernel
theorem dX3_ofPart_60 : decode cX3_ofPart 60 = .ok (.getfield 10, 3) := by decide +kernel
theorem dX3_ofPart_63 : decode cX3_ofPart 63 = .ok (.iload_n 1, 1) := by decide +kernel
theorem dX3_ofPart_64 : decode cX3_ofPart 64 = .ok (.iload_n 3, 1) := by decide +kernel
theorem dX3_ofPart_65 : decode cX3_ofPart 65 = .ok (.invokevirtual 228, 3) := by decide +kernel
theorem dX3_ofPart_68 : decode cX3_ofPart 68 = .ok (.ireturn, 1) := by decide +kernel
theorem dX3_ofPart_69 : decode cX3_ofPart 69 = .ok (.aload_n 0, 1) := by decide +kernel
theorem dX3_ofPart_70 : decode cX3_ofPart 70 = .ok (.getfield 10, 3) := by decide +kernel
theorem dX3_ofPart_73 : decode cX3_ofPart 73 = .ok (.iconst 1, 1) := by decide +kernel
theorem dX3_ofPart_74 : decode cX3_ofPart 74 = .ok (.iload_n 1, 1) := by decide +kernel
theorem dX3_ofPart_75 : decode cX3_ofPart 75 = .ok (.invokevirtual 231, 3) := by decide +kernel
theorem dX3_ofPart_78 : decode cX3_ofPart 78 = .ok (.ireturn, 1) := by decide +kernel
theorem dX3_ofPart_79 : decode cX3_ofPart 79 = .ok (.aload_n 0, 1) := by decide +kernel
theorem dX3_ofPart_80 : decode cX3_ofPart 80 = .ok (.getfield 10, 3) := by decide +kernel
theorem dX3_ofPart_83 : decode cX3_ofPart 83 = .ok (.iconst 2, 1) := by decide +kernel
theorem dX3_ofPart_84 : decode cX3_ofPart 84 = .ok (.iload_n 1, 1) := by decide +kernel
theorem dX3_ofPart_85 : decode cX3_ofPart 85 = .ok (.invokevirtual 231, 3) := by decide +kernel
theorem dX3_ofPart_88 : decode cX3_ofPart 88 = .ok (.ireturn, 1) := by decide +kernel
theorem dX3_ofPart_89 : decode cX3_ofPart 89 = .ok (.aload_n 0, 1) := by decide +kernel
theorem dX3_ofPart_90 : decode cX3_ofPart 90 = .ok (.getfield 10, 3) := by decide +kernel
theorem dX3_ofPart_93 : decode cX3_ofPart 93 = .ok (.iload_n 1, 1) := by decide +kernel
theorem dX3_ofPart_94 : decode cX3_ofPart 94 = .ok (.iload_n 3, 1) := by decide +kernel
theorem dX3_ofPart_95 : decode cX3_ofPart 95 = .ok (.invokevirtual 234, 3) := by decide +kernel
theorem dX3_ofPart_98 : decode cX3_ofPart 98 = .ok (.ifCond .eq 7, 3) := by decide +kernel
theorem dX3_ofPart_101 : decode cX3_ofPart 101 = .ok (.iconst 1, 1) := by decide +kernel
theorem dX3_ofPart_102 : decode cX3_ofPart 102 = .ok (.goto 4, 3) := by decide +kernel
theorem dX3_ofPart_105 : decode cX3_ofPart 105 = .ok (.iconst 0, 1) := by decide +kernel
theorem dX3_ofPart_106 : decode cX3_ofPart 106 = .ok (.ireturn, 1) := by decide +kernel
set_option maxRecDepth 20000 in
theorem ggX3_ofForm_X0_size : GoodIn wsX3_ofForm wsX0_size := goodIn_r _ [6, 7, 56, 57, 58, 59, 60, 61, 62] (by decide +kernel) (by decide +kernel)
set_option maxRecDepth 20000 in
theorem gX3_ofForm_X0_size_n54 : GoodIn wsX3_ofForm (wsX0_size) := ggX3_ofForm_X0_size
set_option maxRecDepth 20000 in
theorem ggX3_ofForm_X0_openBoxes : GoodIn wsX3_ofForm wsX0_openBoxes := goodIn_r _ [10, 7, 11, 12, 13, 4, 14, 15, 16, 17, 18, 19, 20, 56, 57, 58, 59, 60, 61, 62] (by decide +kernel) (by decide +kernel)
set_option maxRecDepth 20000 in
theorem gX3_ofForm_X0_openBoxes_n237 : GoodIn wsX3_ofForm (wsX0_openBoxes) := ggX3_ofForm_X0_openBoxes
set_option maxRecDepth 20000 in
theorem ggX3_ofForm_X0_wanting : GoodIn wsX3_ofForm wsX0_wanting := goodIn_r _ [23, 7, 24, 25, 26, 4, 27, 11, 12, 13, 14, 15, 16, 17, 18, 19, 20, 28, 29, 30, 31, 32, 33, 56, 57, 58, 59, 60, 61, 62] (by decide +kernel) (by decide +kernel)
set_option maxRecDepth 20000 in
theorem gX3_ofForm_X0_wanting_n86 : GoodIn wsX3_ofForm (wsX0_wanting) := ggX3_ofForm_X0_wanting
set_option maxRecDepth 20000 in
theorem ggX3_ofForm_X0_firstWanting : GoodIn wsX3_ofForm wsX0_firstWanting := goodIn_r _ [36, 7, 24, 25, 26, 4, 27, 11, 12, 13, 14, 15, 16, 17, 18, 19, 20, 28, 29, 30, 31, 32, 33, 56, 57, 58, 59, 60, 61, 62] (by decide +kernel) (by decide +kernel)
set_option maxRecDepth 20000 in
theorem gX3_ofForm_X0_firstWanting_n240 : GoodIn wsX3_ofForm (wsX0_firstWanting) := ggX3_ofForm_X0_firstWanting
set_option maxRecDepth 20000 in
theorem ggX3_ofForm_J6_bitCount_0f7a4 : GoodIn wsX3_ofForm wsJ6_bitCount_0f7a4 := goodIn_r _ [40, 41, 42, 43] (by decide +kernel) (by decide +kernel)
set_option maxRecDepth 20000 in
theorem gX3_ofForm_J6_bitCount_0f7a4 : GoodIn wsX3_ofForm (va_wsS RX3 243 yJ6_bitCount_0f7a4 wsJ6_bitCount_0f7a4) := goodIn_app (goodIn_of _ (by decide +kernel)) ggX3_ofForm_J6_bitCount_0f7a4
set_option maxRecDepth 20000 in
theorem ggX3_ofForm_X0_answered : GoodIn wsX3_ofForm wsX0_answered := goodIn_r _ [46, 7, 33, 16, 17, 18, 56, 57, 58, 59, 60, 61, 62] (by decide +kernel) (by decide +kernel)
set_option maxRecDepth 20000 in
theorem gX3_ofForm_X0_answered_n89 : GoodIn wsX3_ofForm (wsX0_answered) := ggX3_ofForm_X0_answered
set_option maxRecDepth 20000 in
theorem ggX3_ofForm_X1_size : GoodIn wsX3_ofForm wsX1_size := goodIn_r _ [50, 51, 63, 64, 65] (by decide +kernel) (by decide +kernel)
set_option maxRecDepth 20000 in
theorem gX3_ofForm_X1_size_n111 : GoodIn wsX3_ofForm (wsX1_size) := ggX3_ofForm_X1_size
theorem dX3_ofForm_0 : decode cX3_ofForm 0 = .ok (.iload_n 1, 1) := by decide +kernel
theorem dX3_ofForm_1 : decode cX3_ofForm 1 = .ok (.tableswitch 114 0 7 #[47, 55, 64, 73, 82, 99, 104, 106], 47) := by decide +kernel
theorem dX3_ofForm_48 : decode cX3_ofForm 48 = .ok (.aload_n 0, 1) := by decide +kernel
theorem dX3_ofForm_49 : decode cX3_ofForm 49 = .ok (.getfield 10, 3) := by decide +kernel
theorem dX3_ofForm_52 : decode cX3_ofForm 52 = .ok (.invokevirtual 54, 3) := by decide +kernel
theorem dX3_ofForm_55 : decode cX3_ofForm 55 = .ok (.ireturn, 1) := by decide +kernel
theorem dX3_ofForm_56 : decode cX3_ofForm 56 = .ok (.aload_n 0, 1) := by decide +kernel
theorem dX3_ofForm_57 : decode cX3_ofForm 57 = .ok (.getfield 10, 3) := by decide +kernel
theorem dX3_ofForm_60 : decode cX3_ofForm 60 = .ok (.iload_n 2, 1) := by decide +kernel
theorem dX3_ofForm_61 : decode cX3_ofForm 61 = .ok (.invokevirtual 237, 3) := by decide +kernel
theorem dX3_ofForm_64 : decode cX3_ofForm 64 = .ok (.ireturn, 1) := by decide +kernel
theorem dX3_ofForm_65 : decode cX3_ofForm 65 = .ok (.aload_n 0, 1) := by decide +kernel
theorem dX3_ofForm_66 : decode cX3_ofForm 66 = .ok (.getfield 10, 3) := by decide +kernel
theorem dX3_ofForm_69 : decode cX3_ofForm 69 = .ok (.iload_n 2, 1) := by decide +kernel
theorem dX3_ofForm_70 : decode cX3_ofForm 70 = .ok (.invokevirtual 86, 3) := by decide +kernel
theorem dX3_ofForm_73 : decode cX3_ofForm 73 = .ok (.ireturn, 1) := by decide +kernel
theorem dX3_ofForm_74 : decode cX3_ofForm 74 = .ok (.aload_n 0, 1) := by decide +kernel
theorem dX3_ofForm_75 : decode cX3_ofForm 75 = .ok (.getfield 10, 3) := by decide +kernel
theorem dX3_ofForm_78 : decode cX3_ofForm 78 = .ok (.iload_n 2, 1) := by decide +kernel
theorem dX3_ofForm_79 : decode cX3_ofForm 79 = .ok (.invokevirtual 240, 3) := by decide +kernel
theorem dX3_ofForm_82 : decode cX3_ofForm 82 = .ok (.ireturn, 1) := by decide +kernel
theorem dX3_ofForm_83 : decode cX3_ofForm 83 = .ok (.aload_n 0, 1) := by decide +kernel
theorem dX3_ofForm_84 : decode cX3_ofForm 84 = .ok (.getfield 10, 3) := by decide +kernel
theorem dX3_ofForm_87 : decode cX3_ofForm 87 = .ok (.iload_n 2, 1) := by decide +kernel
theorem dX3_ofForm_88 : decode cX3_ofForm 88 = .ok (.invokevirtual 86, 3) := by decide +kernel
theorem dX3_ofForm_91 : decode cX3_ofForm 91 = .ok (.ifCond .ne 7, 3) := by decide +kernel
theorem dX3_ofForm_94 : decode cX3_ofForm 94 = .ok (.iconst 1, 1) := by decide +kernel
theorem dX3_ofForm_95 : decode cX3_ofForm 95 = .ok (.goto 4, 3) := by decide +kernel
theorem dX3_ofForm_98 : decode cX3_ofForm 98 = .ok (.iconst 0, 1) := by decide +kernel
theorem dX3_ofForm_99 : decode cX3_ofForm 99 = .ok (.ireturn, 1) := by decide +kernel
theorem dX3_ofForm_100 : decode cX3_ofForm 100 = .ok (.iload_n 2, 1) := by decide +kernel
theorem dX3_ofForm_101 : decode cX3_ofForm 101 = .ok (.invokestatic 243, 3) := by decide +kernel
theorem dX3_ofForm_104 : decode cX3_ofForm 104 = .ok (.ireturn, 1) := by decide +kernel
theorem dX3_ofForm_105 : decode cX3_ofForm 105 = .ok (.iload_n 2, 1) := by decide +kernel
theorem dX3_ofForm_106 : decode cX3_ofForm 106 = .ok (.ireturn, 1) := by decide +kernel
theorem dX3_ofForm_107 : decode cX3_ofForm 107 = .ok (.aload_n 0, 1) := by decide +kernel
theorem dX3_ofForm_108 : decode cX3_ofForm 108 = .ok (.getfield 10, 3) := by decide +kernel
theorem dX3_ofForm_111 : decode cX3_ofForm 111 = .ok (.invokevirtual 89, 3) := by decide +kernel
theorem dX3_ofForm_114 : decode cX3_ofForm 114 = .ok (.ireturn, 1) := by decide +kernel
theorem dX3_ofForm_115 : decode cX3_ofForm 115 = .ok (.aload_n 0, 1) := by decide +kernel
theorem dX3_ofForm_116 : decode cX3_ofForm 116 = .ok (.getfield 22, 3) := by decide +kernel
theorem dX3_ofForm_119 : decode cX3_ofForm 119 = .ok (.invokevirtual 111, 3) := by decide +kernel
theorem dX3_ofForm_122 : decode cX3_ofForm 122 = .ok (.ireturn, 1) := by decide +kernel
set_option maxRecDepth 20000 in
theorem ggX3_ofTrial_X0_copyFrom : GoodIn wsX3_ofTrial wsX0_copyFrom := goodIn_r _ [6, 7, 8, 9, 10, 11, 12, 13, 14, 15, 16, 17, 77, 78, 79, 80, 81, 82, 83] (by decide +kernel) (by decide +kernel)
set_option maxRecDepth 20000 in
theorem gX3_ofTrial_X0_copyFrom_n248 : GoodIn wsX3_ofTrial (wsX0_copyFrom) := ggX3_ofTrial_X0_copyFrom
set_option maxRecDepth 20000 in
theorem ggX3_ofTrial_X0_give : GoodIn wsX3_ofTrial wsX0_give := goodIn_r _ [20, 12, 16, 14, 17, 77, 78, 79, 80, 81, 82, 83] (by decide +kernel) (by decide +kernel)
set_option maxRecDepth 20000 in
theorem gX3_ofTrial_X0_give_n80 : GoodIn wsX3_ofTrial (wsX0_give) := ggX3_ofTrial_X0_give
set_option maxRecDepth 20000 in
theorem ggX3_ofTrial_X0_openParts : GoodIn wsX3_ofTrial wsX0_openParts := goodIn_r _ [23, 24, 25, 26, 4, 27, 7, 12, 28, 29, 30, 31, 8, 10, 13, 14, 15, 32, 33, 34, 35, 9, 36, 37, 38, 39, 40, 41, 11, 42, 43, 44, 45, 77, 78, 79, 80, 81, 82, 83] (by decide +kernel) (by decide +kernel)
set_option maxRecDepth 20000 in
theorem gX3_ofTrial_X0_openParts_n83 : GoodIn wsX3_ofTrial (wsX0_openParts) := ggX3_ofTrial_X0_openParts
set_option maxRecDepth 20000 in
theorem ggX3_ofTrial_X0_wanting : GoodIn wsX3_ofTrial wsX0_wanting := goodIn_r _ [48, 7, 49, 50, 51, 4, 52, 32, 33, 34, 35, 9, 13, 14, 15, 36, 37, 42, 43, 44, 45, 8, 12, 77, 78, 79, 80, 81, 82, 83] (by decide +kernel) (by decide +kernel)
set_option maxRecDepth 20000 in
theorem gX3_ofTrial_X0_wanting_n86 : GoodIn wsX3_ofTrial (wsX0_wanting) := ggX3_ofTrial_X0_wanting
set_option maxRecDepth 20000 in
theorem ggX3_ofTrial_X0_lastTotal : GoodIn wsX3_ofTrial wsX0_lastTotal := goodIn_r _ [55, 7, 8, 13, 14, 15, 77, 78, 79, 80, 81, 82, 83] (by decide +kernel) (by decide +kernel)
set_option maxRecDepth 20000 in
theorem gX3_ofTrial_X0_lastTotal_n251 : GoodIn wsX3_ofTrial (wsX0_lastTotal) := ggX3_ofTrial_X0_lastTotal
set_option maxRecDepth 20000 in
theorem ggX3_ofTrial_X0_valueOf : GoodIn wsX3_ofTrial wsX0_valueOf := goodIn_r _ [58, 7, 59, 8, 13, 14, 15, 60, 61, 62, 4, 63, 10, 64, 65, 66, 67, 68, 36, 37, 32, 33, 34, 35, 9, 69, 70, 71, 72, 12, 42, 43, 44, 45, 16, 17, 77, 78, 79, 80, 81, 82, 83] (by decide +kernel) (by decide +kernel)
set_option maxRecDepth 20000 in
theorem gX3_ofTrial_X0_valueOf_n213 : GoodIn wsX3_ofTrial (wsX0_valueOf) := ggX3_ofTrial_X0_valueOf
theorem dX3_ofTrial_0 : decode cX3_ofTrial 0 = .ok (.aload_n 0, 1) := by decide +kernel
theorem dX3_ofTrial_1 : decode cX3_ofTrial 1 = .ok (.getfield 16, 3) := by decide +kernel
theorem dX3_ofTrial_4 : decode cX3_ofTrial 4 = .ok (.aload_n 0, 1) := by decide +kernel
theorem dX3_ofTrial_5 : decode cX3_ofTrial 5 = .ok (.getfield 10, 3) := by decide +kernel
theorem dX3_ofTrial_8 : decode cX3_ofTrial 8 = .ok (.invokevirtual 248, 3) := by decide +kernel
theorem dX3_ofTrial_11 : decode cX3_ofTrial 11 = .ok (.aload_n 0, 1) := by decide +kernel
theorem dX3_ofTrial_12 : decode cX3_ofTrial 12 = .ok (.getfield 16, 3) := by decide +kernel
theorem dX3_ofTrial_15 : decode cX3_ofTrial 15 = .ok (.iload_n 1, 1) := by decide +kernel
theorem dX3_ofTrial_16 : decode cX3_ofTrial 16 = .ok (.iload_n 2, 1) := by decide +kernel
theorem dX3_ofTrial_17 : decode cX3_ofTrial 17 = .ok (.invokevirtual 80, 3) := by decide +kernel
theorem dX3_ofTrial_20 : decode cX3_ofTrial 20 = .ok (.aload_n 0, 1) := by decide +kernel
theorem dX3_ofTrial_21 : decode cX3_ofTrial 21 = .ok (.getfield 16, 3) := by decide +kernel
theorem dX3_ofTrial_24 : decode cX3_ofTrial 24 = .ok (.invokevirtual 83, 3) := by decide +kernel
theorem dX3_ofTrial_27 : decode cX3_ofTrial 27 = .ok (.istore 4, 2) := by decide +kernel
theorem dX3_ofTrial_29 : decode cX3_ofTrial 29 = .ok (.iload_n 3, 1) := by decide +kernel
theorem dX3_ofTrial_30 : decode cX3_ofTrial 30 = .ok (.lookupswitch 39 #[(0, 26), (1, 36)], 26) := by decide +kernel
theorem dX3_ofTrial_56 : decode cX3_ofTrial 56 = .ok (.aload_n 0, 1) := by decide +kernel
theorem dX3_ofTrial_57 : decode cX3_ofTrial 57 = .ok (.getfield 16, 3) := by decide +kernel
theorem dX3_ofTrial_60 : decode cX3_ofTrial 60 = .ok (.iload 4, 2) := by decide +kernel
theorem dX3_ofTrial_62 : decode cX3_ofTrial 62 = .ok (.invokevirtual 86, 3) := by decide +kernel
theorem dX3_ofTrial_65 : decode cX3_ofTrial 65 = .ok (.ireturn, 1) := by decide +kernel
theorem dX3_ofTrial_66 : decode cX3_ofTrial 66 = .ok (.iload 4, 2) := by decide +kernel
theorem dX3_ofTrial_68 : decode cX3_ofTrial 68 = .ok (.ireturn, 1) := by decide +kernel
theorem dX3_ofTrial_69 : decode cX3_ofTrial 69 = .ok (.aload_n 0, 1) := by decide +kernel
theorem dX3_ofTrial_70 : decode cX3_ofTrial 70 = .ok (.getfield 16, 3) := by decide +kernel
theorem dX3_ofTrial_73 : decode cX3_ofTrial 73 = .ok (.aload_n 0, 1) := by decide +kernel
theorem dX3_ofTrial_74 : decode cX3_ofTrial 74 = .ok (.getfield 16, 3) := by decide +kernel
theorem dX3_ofTrial_77 : decode cX3_ofTrial 77 = .ok (.invokevirtual 251, 3) := by decide +kernel
theorem dX3_ofTrial_80 : decode cX3_ofTrial 80 = .ok (.iload 4, 2) := by decide +kernel
theorem dX3_ofTrial_82 : decode cX3_ofTrial 82 = .ok (.invokevirtual 213, 3) := by decide +kernel
theorem dX3_ofTrial_85 : decode cX3_ofTrial 85 = .ok (.ireturn, 1) := by decide +kernel
theorem dX3_isInMask_0 : decode cX3_isInMask 0 = .ok (.iload_n 1, 1) := by decide +kernel
theorem dX3_isInMask_1 : decode cX3_isInMask 1 = .ok (.iload_n 0, 1) := by decide +kernel
theorem dX3_isInMask_2 : decode cX3_isInMask 2 = .ok (.ishr, 1) := by decide +kernel
theorem dX3_isInMask_3 : decode cX3_isInMask 3 = .ok (.iconst 1, 1) := by decide +kernel
theorem dX3_isInMask_4 : decode cX3_isInMask 4 = .ok (.iand, 1) := by decide +kernel
theorem dX3_isInMask_5 : decode cX3_isInMask 5 = .ok (.iconst 1, 1) := by decide +kernel
theorem dX3_isInMask_6 : decode cX3_isInMask 6 = .ok (.if_icmp .ne 7, 3) := by decide +kernel
theorem dX3_isInMask_9 : decode cX3_isInMask 9 = .ok (.iconst 1, 1) := by decide +kernel
theorem dX3_isInMask_10 : decode cX3_isInMask 10 = .ok (.goto 4, 3) := by decide +kernel
theorem dX3_isInMask_13 : decode cX3_isInMask 13 = .ok (.iconst 0, 1) := by decide +kernel
theorem dX3_isInMask_14 : decode cX3_isInMask 14 = .ok (.ireturn, 1) := by decide +kernel
theorem dJ6_bitCount_0f7a4_0 : decode cJ6_bitCount_0f7a4 0 = .ok (.iload_n 0, 1) := by decide +kernel
theorem dJ6_bitCount_0f7a4_1 : decode cJ6_bitCount_0f7a4 1 = .ok (.iload_n 0, 1) := by decide +kernel
theorem dJ6_bitCount_0f7a4_2 : decode cJ6_bitCount_0f7a4 2 = .ok (.iconst 1, 1) := by decide +kernel
theorem dJ6_bitCount_0f7a4_3 : decode cJ6_bitCount_0f7a4 3 = .ok (.iushr, 1) := by decide +kernel
theorem dJ6_bitCount_0f7a4_4 : decode cJ6_bitCount_0f7a4 4 = .ok (.ldc_w 265, 3) := by decide +kernel
theorem dJ6_bitCount_0f7a4_7 : decode cJ6_bitCount_0f7a4 7 = .ok (.iand, 1) := by decide +kernel
theorem dJ6_bitCount_0f7a4_8 : decode cJ6_bitCount_0f7a4 8 = .ok (.isub, 1) := by decide +kernel
theorem dJ6_bitCount_0f7a4_9 : decode cJ6_bitCount_0f7a4 9 = .ok (.istore_n 0, 1) := by decide +kernel
theorem dJ6_bitCount_0f7a4_10 : decode cJ6_bitCount_0f7a4 10 = .ok (.iload_n 0, 1) := by decide +kernel
theorem dJ6_bitCount_0f7a4_11 : decode cJ6_bitCount_0f7a4 11 = .ok (.ldc_w 266, 3) := by decide +kernel
theorem dJ6_bitCount_0f7a4_14 : decode cJ6_bitCount_0f7a4 14 = .ok (.iand, 1) := by decide +kernel
theorem dJ6_bitCount_0f7a4_15 : decode cJ6_bitCount_0f7a4 15 = .ok (.iload_n 0, 1) := by decide +kernel
theorem dJ6_bitCount_0f7a4_16 : decode cJ6_bitCount_0f7a4 16 = .ok (.iconst 2, 1) := by decide +kernel
theorem dJ6_bitCount_0f7a4_17 : decode cJ6_bitCount_0f7a4 17 = .ok (.iushr, 1) := by decide +kernel
theorem dJ6_bitCount_0f7a4_18 : decode cJ6_bitCount_0f7a4 18 = .ok (.ldc_w 266, 3) := by decide +kernel
theorem dJ6_bitCount_0f7a4_21 : decode cJ6_bitCount_0f7a4 21 = .ok (.iand, 1) := by decide +kernel
theorem dJ6_bitCount_0f7a4_22 : decode cJ6_bitCount_0f7a4 22 = .ok (.iadd, 1) := by decide +kernel
theorem dJ6_bitCount_0f7a4_23 : decode cJ6_bitCount_0f7a4 23 = .ok (.istore_n 0, 1) := by decide +kernel
theorem dJ6_bitCount_0f7a4_24 : decode cJ6_bitCount_0f7a4 24 = .ok (.iload_n 0, 1) := by decide +kernel
theorem dJ6_bitCount_0f7a4_25 : decode cJ6_bitCount_0f7a4 25 = .ok (.iload_n 0, 1) := by decide +kernel
theorem dJ6_bitCount_0f7a4_26 : decode cJ6_bitCount_0f7a4 26 = .ok (.iconst 4, 1) := by decide +kernel
theorem dJ6_bitCount_0f7a4_27 : decode cJ6_bitCount_0f7a4 27 = .ok (.iushr, 1) := by decide +kernel
theorem dJ6_bitCount_0f7a4_28 : decode cJ6_bitCount_0f7a4 28 = .ok (.iadd, 1) := by decide +kernel
theorem dJ6_bitCount_0f7a4_29 : decode cJ6_bitCount_0f7a4 29 = .ok (.ldc_w 267, 3) := by decide +kernel
theorem dJ6_bitCount_0f7a4_32 : decode cJ6_bitCount_0f7a4 32 = .ok (.iand, 1) := by decide +kernel
theorem dJ6_bitCount_0f7a4_33 : decode cJ6_bitCount_0f7a4 33 = .ok (.istore_n 0, 1) := by decide +kernel
theorem dJ6_bitCount_0f7a4_34 : decode cJ6_bitCount_0f7a4 34 = .ok (.iload_n 0, 1) := by decide +kernel
theorem dJ6_bitCount_0f7a4_35 : decode cJ6_bitCount_0f7a4 35 = .ok (.iload_n 0, 1) := by decide +kernel
theorem dJ6_bitCount_0f7a4_36 : decode cJ6_bitCount_0f7a4 36 = .ok (.bipush 8, 2) := by decide +kernel
theorem dJ6_bitCount_0f7a4_38 : decode cJ6_bitCount_0f7a4 38 = .ok (.iushr, 1) := by decide +kernel
theorem dJ6_bitCount_0f7a4_39 : decode cJ6_bitCount_0f7a4 39 = .ok (.iadd, 1) := by decide +kernel
theorem dJ6_bitCount_0f7a4_40 : decode cJ6_bitCount_0f7a4 40 = .ok (.istore_n 0, 1) := by decide +kernel
theorem dJ6_bitCount_0f7a4_41 : decode cJ6_bitCount_0f7a4 41 = .ok (.iload_n 0, 1) := by decide +kernel
theorem dJ6_bitCount_0f7a4_42 : decode cJ6_bitCount_0f7a4 42 = .ok (.iload_n 0, 1) := by decide +kernel
theorem dJ6_bitCount_0f7a4_43 : decode cJ6_bitCount_0f7a4 43 = .ok (.bipush 16, 2) := by decide +kernel
theorem dJ6_bitCount_0f7a4_45 : decode cJ6_bitCount_0f7a4 45 = .ok (.iushr, 1) := by decide +kernel
theorem dJ6_bitCount_0f7a4_46 : decode cJ6_bitCount_0f7a4 46 = .ok (.iadd, 1) := by decide +kernel
theorem dJ6_bitCount_0f7a4_47 : decode cJ6_bitCount_0f7a4 47 = .ok (.istore_n 0, 1) := by decide +kernel
theorem dJ6_bitCount_0f7a4_48 : decode cJ6_bitCount_0f7a4 48 = .ok (.iload_n 0, 1) := by decide +kernel
theorem dJ6_bitCount_0f7a4_49 : decode cJ6_bitCount_0f7a4 49 = .ok (.bipush 63, 2) := by decide +kernel
theorem dJ6_bitCount_0f7a4_51 : decode cJ6_bitCount_0f7a4 51 = .ok (.iand, 1) := by decide +kernel
theorem dJ6_bitCount_0f7a4_52 : decode cJ6_bitCount_0f7a4 52 = .ok (.ireturn, 1) := by decide +kernel
theorem dJ9_min_7cf53_0 : decode cJ9_min_7cf53 0 = .ok (.iload_n 0, 1) := by decide +kernel
theorem dJ9_min_7cf53_1 : decode cJ9_min_7cf53 1 = .ok (.iload_n 1, 1) := by decide +kernel
theorem dJ9_min_7cf53_2 : decode cJ9_min_7cf53 2 = .ok (.if_icmp .gt 7, 3) := by decide +kernel
theorem dJ9_min_7cf53_5 : decode cJ9_min_7cf53 5 = .ok (.iload_n 0, 1) := by decide +kernel
theorem dJ9_min_7cf53_6 : decode cJ9_min_7cf53 6 = .ok (.goto 4, 3) := by decide +kernel
theorem dJ9_min_7cf53_9 : decode cJ9_min_7cf53 9 = .ok (.iload_n 1, 1) := by decide +kernel
theorem dJ9_min_7cf53_10 : decode cJ9_min_7cf53 10 = .ok (.ireturn, 1) := by decide +kernel
theorem dL_cell_0 : decode cL_cell 0 = .ok (.iload_n 1, 1) := by decide +kernel
theorem dL_cell_1 : decode cL_cell 1 = .ok (.aload_n 0, 1) := by decide +kernel
theorem dL_cell_2 : decode cL_cell 2 = .ok (.arraylength, 1) := by decide +kernel
theorem dL_cell_3 : decode cL_cell 3 = .ok (.if_icmp .ge 9, 3) := by decide +kernel
theorem dL_cell_6 : decode cL_cell 6 = .ok (.aload_n 0, 1) := by decide +kernel
theorem dL_cell_7 : decode cL_cell 7 = .ok (.iload_n 1, 1) := by decide +kernel
theorem dL_cell_8 : decode cL_cell 8 = .ok (.iaload, 1) := by decide +kernel
theorem dL_cell_9 : decode cL_cell 9 = .ok (.goto 10, 3) := by decide +kernel
theorem dL_cell_12 : decode cL_cell 12 = .ok (.ldc 7, 2) := by decide +kernel
theorem dL_cell_14 : decode cL_cell 14 = .ok (.iload_n 1, 1) := by decide +kernel
theorem dL_cell_15 : decode cL_cell 15 = .ok (.imul, 1) := by decide +kernel
theorem dL_cell_16 : decode cL_cell 16 = .ok (.ldc 8, 2) := by decide +kernel
theorem dL_cell_18 : decode cL_cell 18 = .ok (.iadd, 1) := by decide +kernel
theorem dL_cell_19 : decode cL_cell 19 = .ok (.ireturn, 1) := by decide +kernel
theorem dL_low_0 : decode cL_low 0 = .ok (.iload_n 0, 1) := by decide +kernel
theorem dL_low_1 : decode cL_low 1 = .ok (.ldc 9, 2) := by decide +kernel
theorem dL_low_3 : decode cL_low 3 = .ok (.iand, 1) := by decide +kernel
theorem dL_low_4 : decode cL_low 4 = .ok (.iload_n 1, 1) := by decide +kernel
theorem dL_low_5 : decode cL_low 5 = .ok (.irem, 1) := by decide +kernel
theorem dL_low_6 : decode cL_low 6 = .ok (.ireturn, 1) := by decide +kernel
theorem dL_open_0 : decode cL_open 0 = .ok (.iconst 1, 1) := by decide +kernel
theorem dL_open_1 : decode cL_open 1 = .ok (.istore 6, 2) := by decide +kernel
theorem dL_open_3 : decode cL_open 3 = .ok (.iconst 1, 1) := by decide +kernel
theorem dL_open_4 : decode cL_open 4 = .ok (.istore 7, 2) := by decide +kernel
theorem dL_open_6 : decode cL_open 6 = .ok (.iload 7, 2) := by decide +kernel
theorem dL_open_8 : decode cL_open 8 = .ok (.iconst 5, 1) := by decide +kernel
theorem dL_open_9 : decode cL_open 9 = .ok (.if_icmp .ge 204, 3) := by decide +kernel
theorem dL_open_12 : decode cL_open 12 = .ok (.iconst 0, 1) := by decide +kernel
theorem dL_open_13 : decode cL_open 13 = .ok (.istore 8, 2) := by decide +kernel
theorem dL_open_15 : decode cL_open 15 = .ok (.iconst 0, 1) := by decide +kernel
theorem dL_open_16 : decode cL_open 16 = .ok (.istore 9, 2) := by decide +kernel
theorem dL_open_18 : decode cL_open 18 = .ok (.iconst 0, 1) := by decide +kernel
theorem dL_open_19 : decode cL_open 19 = .ok (.istore 10, 2) := by decide +kernel
theorem dL_open_21 : decode cL_open 21 = .ok (.iconst 0, 1) := by decide +kernel
theorem dL_open_22 : decode cL_open 22 = .ok (.istore 11, 2) := by decide +kernel
theorem dL_open_24 : decode cL_open 24 = .ok (.iload 11, 2) := by decide +kernel
theorem dL_open_26 : decode cL_open 26 = .ok (.iload 5, 2) := by decide +kernel
theorem dL_open_28 : decode cL_open 28 = .ok (.if_icmp .ge 155, 3) := by decide +kernel
theorem dL_open_31 : decode cL_open 31 = .ok (.iload 6, 2) := by decide +kernel
theorem dL_open_33 : decode cL_open 33 = .ok (.aload_n 1, 1) := by decide +kernel
theorem dL_open_34 : decode cL_open 34 = .ok (.iload 11, 2) := by decide +kernel
theorem dL_open_36 : decode cL_open 36 = .ok (.iaload, 1) := by decide +kernel
theorem dL_open_37 : decode cL_open 37 = .ok (.ishr, 1) := by decide +kernel
theorem dL_open_38 : decode cL_open 38 = .ok (.iconst 1, 1) := by decide +kernel
theorem dL_open_39 : decode cL_open 39 = .ok (.iand, 1) := by decide +kernel
theorem dL_open_40 : decode cL_open 40 = .ok (.iconst 1, 1) := by decide +kernel
theorem dL_open_41 : decode cL_open 41 = .ok (.if_icmp .ne 7, 3) := by decide +kernel
theorem dL_open_44 : decode cL_open 44 = .ok (.iconst 1, 1) := by decide +kernel
theorem dL_open_45 : decode cL_open 45 = .ok (.goto 4, 3) := by decide +kernel
theorem dL_open_48 : decode cL_open 48 = .ok (.iconst 0, 1) := by decide +kernel
theorem dL_open_49 : decode cL_open 49 = .ok (.istore 12, 2) := by decide +kernel
theorem dL_open_51 : decode cL_open 51 = .ok (.iload 8, 2) := by decide +kernel
theorem dL_open_53 : decode cL_open 53 = .ok (.ifCond .ne 20, 3) := by decide +kernel
theorem dL_open_56 : decode cL_open 56 = .ok (.aload_n 0, 1) := by decide +kernel
theorem dL_open_57 : decode cL_open 57 = .ok (.iload 11, 2) := by decide +kernel
theorem dL_open_59 : decode cL_open 59 = .ok (.iaload, 1) := by decide +kernel
theorem dL_open_60 : decode cL_open 60 = .ok (.iconst 1, 1) := by decide +kernel
theorem dL_open_61 : decode cL_open 61 = .ok (.if_icmp .ne 16, 3) := by decide +kernel
theorem dL_open_64 : decode cL_open 64 = .ok (.aload_n 2, 1) := by decide +kernel
theorem dL_open_65 : decode cL_open 65 = .ok (.iload 11, 2) := by decide +kernel
theorem dL_open_67 : decode cL_open 67 = .ok (.iaload, 1) := by decide +kernel
theorem dL_open_68 : decode cL_open 68 = .ok (.iload 7, 2) := by decide +kernel
theorem dL_open_70 : decode cL_open 70 = .ok (.if_icmp .ne 7, 3) := by decide +kernel
theorem dL_open_73 : decode cL_open 73 = .ok (.iconst 1, 1) := by decide +kernel
theorem dL_open_74 : decode cL_open 74 = .ok (.goto 4, 3) := by decide +kernel
theorem dL_open_77 : decode cL_open 77 = .ok (.iconst 0, 1) := by decide +kernel
theorem dL_open_78 : decode cL_open 78 = .ok (.istore 8, 2) := by decide +kernel
theorem dL_open_80 : decode cL_open 80 = .ok (.iload 9, 2) := by decide +kernel
theorem dL_open_82 : decode cL_open 82 = .ok (.ifCond .ne 34, 3) := by decide +kernel
theorem dL_open_85 : decode cL_open 85 = .ok (.aload_n 0, 1) := by decide +kernel
theorem dL_open_86 : decode cL_open 86 = .ok (.iload 11, 2) := by decide +kernel
theorem dL_open_88 : decode cL_open 88 = .ok (.iaload, 1) := by decide +kernel
theorem dL_open_89 : decode cL_open 89 = .ok (.iconst 1, 1) := by decide +kernel
theorem dL_open_90 : decode cL_open 90 = .ok (.if_icmp .ne 30, 3) := by decide +kernel
theorem dL_open_93 : decode cL_open 93 = .ok (.aload_n 2, 1) := by decide +kernel
theorem dL_open_94 : decode cL_open 94 = .ok (.iload 11, 2) := by decide +kernel
theorem dL_open_96 : decode cL_open 96 = .ok (.iaload, 1) := by decide +kernel
theorem dL_open_97 : decode cL_open 97 = .ok (.iload 7, 2) := by decide +kernel
theorem dL_open_99 : decode cL_open 99 = .ok (.if_icmp .ne 21, 3) := by decide +kernel
theorem dL_open_102 : decode cL_open 102 = .ok (.iload 12, 2) := by decide +kernel
theorem dL_open_104 : decode cL_open 104 = .ok (.ifCond .eq 16, 3) := by decide +kernel
theorem dL_open_107 : decode cL_open 107 = .ok (.aload 4, 2) := by decide +kernel
theorem dL_open_109 : decode cL_open 109 = .ok (.iload 11, 2) := by decide +kernel
theorem dL_open_111 : decode cL_open 111 = .ok (.iaload, 1) := by decide +kernel
theorem dL_open_112 : decode cL_open 112 = .ok (.iconst 1, 1) := by decide +kernel
theorem dL_open_113 : decode cL_open 113 = .ok (.if_icmp .ne 7, 3) := by decide +kernel
theorem dL_open_116 : decode cL_open 116 = .ok (.iconst 1, 1) := by decide +kernel
theorem dL_open_117 : decode cL_open 117 = .ok (.goto 4, 3) := by decide +kernel
theorem dL_open_120 : decode cL_open 120 = .ok (.iconst 0, 1) := by decide +kernel
theorem dL_open_121 : decode cL_open 121 = .ok (.istore 9, 2) := by decide +kernel
theorem dL_open_123 : decode cL_open 123 = .ok (.iload 10, 2) := by decide +kernel
theorem dL_open_125 : decode cL_open 125 = .ok (.ifCond .ne 45, 3) := by decide +kernel
theorem dL_open_128 : decode cL_open 128 = .ok (.aload_n 0, 1) := by decide +kernel
theorem dL_open_129 : decode cL_open 129 = .ok (.iload 11, 2) := by decide +kernel
theorem dL_open_131 : decode cL_open 131 = .ok (.iaload, 1) := by decide +kernel
theorem dL_open_132 : decode cL_open 132 = .ok (.iconst 2, 1) := by decide +kernel
theorem dL_open_133 : decode cL_open 133 = .ok (.if_icmp .ne 41, 3) := by decide +kernel
theorem dL_open_136 : decode cL_open 136 = .ok (.aload_n 2, 1) := by decide +kernel
theorem dL_open_137 : decode cL_open 137 = .ok (.iload 11, 2) := by decide +kernel
theorem dL_open_139 : decode cL_open 139 = .ok (.iaload, 1) := by decide +kernel
theorem dL_open_140 : decode cL_open 140 = .ok (.iload 7, 2) := by decide +kernel
theorem dL_open_142 : decode cL_open 142 = .ok (.if_icmp .ne 32, 3) := by decide +kernel
theorem dL_open_145 : decode cL_open 145 = .ok (.iload 12, 2) := by decide +kernel
theorem dL_open_147 : decode cL_open 147 = .ok (.ifCond .eq 27, 3) := by decide +kernel
theorem dL_open_150 : decode cL_open 150 = .ok (.aload 4, 2) := by decide +kernel
theorem dL_open_152 : decode cL_open 152 = .ok (.iload 11, 2) := by decide +kernel
theorem dL_open_154 : decode cL_open 154 = .ok (.iaload, 1) := by decide +kernel
theorem dL_open_155 : decode cL_open 155 = .ok (.ifCond .lt 19, 3) := by decide +kernel
theorem dL_open_158 : decode cL_open 158 = .ok (.aload 4, 2) := by decide +kernel
theorem dL_open_160 : decode cL_open 160 = .ok (.iload 11, 2) := by decide +kernel
theorem dL_open_162 : decode cL_open 162 = .ok (.iaload, 1) := by decide +kernel
theorem dL_open_163 : decode cL_open 163 = .ok (.aload_n 3, 1) := by decide +kernel
theorem dL_open_164 : decode cL_open 164 = .ok (.iload 11, 2) := by decide +kernel
theorem dL_open_166 : decode cL_open 166 = .ok (.iaload, 1) := by decide +kernel
theorem dL_open_167 : decode cL_open 167 = .ok (.if_icmp .lt 7, 3) := by decide +kernel
theorem dL_open_170 : decode cL_open 170 = .ok (.iconst 1, 1) := by decide +kernel
theorem dL_open_171 : decode cL_open 171 = .ok (.goto 4, 3) := by decide +kernel
theorem dL_open_174 : decode cL_open 174 = .ok (.iconst 0, 1) := by decide +kernel
theorem dL_open_175 : decode cL_open 175 = .ok (.istore 10, 2) := by decide +kernel
theorem dL_open_177 : decode cL_open 177 = .ok (.iinc 11 1, 3) := by decide +kernel
theorem dL_open_180 : decode cL_open 180 = .ok (.goto (-156), 3) := by decide +kernel
theorem dL_open_183 : decode cL_open 183 = .ok (.iload 9, 2) := by decide +kernel
theorem dL_open_185 : decode cL_open 185 = .ok (.ifCond .ne 8, 3) := by decide +kernel
theorem dL_open_188 : decode cL_open 188 = .ok (.iload 8, 2) := by decide +kernel
theorem dL_open_190 : decode cL_open 190 = .ok (.ifCond .ne 17, 3) := by decide +kernel
theorem dL_open_193 : decode cL_open 193 = .ok (.iload 10, 2) := by decide +kernel
theorem dL_open_195 : decode cL_open 195 = .ok (.ifCond .ne 12, 3) := by decide +kernel
theorem dL_open_198 : decode cL_open 198 = .ok (.iload 6, 2) := by decide +kernel
theorem dL_open_200 : decode cL_open 200 = .ok (.iconst 1, 1) := by decide +kernel
theorem dL_open_201 : decode cL_open 201 = .ok (.iload 7, 2) := by decide +kernel
theorem dL_open_203 : decode cL_open 203 = .ok (.ishl, 1) := by decide +kernel
theorem dL_open_204 : decode cL_open 204 = .ok (.ior, 1) := by decide +kernel
theorem dL_open_205 : decode cL_open 205 = .ok (.istore 6, 2) := by decide +kernel
theorem dL_open_207 : decode cL_open 207 = .ok (.iinc 7 1, 3) := by decide +kernel
theorem dL_open_210 : decode cL_open 210 = .ok (.goto (-204), 3) := by decide +kernel
theorem dL_open_213 : decode cL_open 213 = .ok (.iload 6, 2) := by decide +kernel
theorem dL_open_215 : decode cL_open 215 = .ok (.ireturn, 1) := by decide +kernel
theorem dL_wanting_0 : decode cL_wanting 0 = .ok (.iconst 0, 1) := by decide +kernel
theorem dL_wanting_1 : decode cL_wanting 1 = .ok (.istore 5, 2) := by decide +kernel
theorem dL_wanting_3 : decode cL_wanting 3 = .ok (.iconst 0, 1) := by decide +kernel
theorem dL_wanting_4 : decode cL_wanting 4 = .ok (.istore 6, 2) := by decide +kernel
theorem dL_wanting_6 : decode cL_wanting 6 = .ok (.iload 6, 2) := by decide +kernel
theorem dL_wanting_8 : decode cL_wanting 8 = .ok (.iload_n 3, 1) := by decide +kernel
theorem dL_wanting_9 : decode cL_wanting 9 = .ok (.if_icmp .ge 47, 3) := by decide +kernel
theorem dL_wanting_12 : decode cL_wanting 12 = .ok (.iload 5, 2) := by decide +kernel
theorem dL_wanting_14 : decode cL_wanting 14 = .ok (.aload_n 0, 1) := by decide +kernel
theorem dL_wanting_15 : decode cL_wanting 15 = .ok (.iload 6, 2) := by decide +kernel
theorem dL_wanting_17 : decode cL_wanting 17 = .ok (.iaload, 1) := by decide +kernel
theorem dL_wanting_18 : decode cL_wanting 18 = .ok (.iconst 3, 1) := by decide +kernel
theorem dL_wanting_19 : decode cL_wanting 19 = .ok (.if_icmp .ge 27, 3) := by decide +kernel
theorem dL_wanting_22 : decode cL_wanting 22 = .ok (.aload_n 2, 1) := by decide +kernel
theorem dL_wanting_23 : decode cL_wanting 23 = .ok (.iload 6, 2) := by decide +kernel
theorem dL_wanting_25 : decode cL_wanting 25 = .ok (.iaload, 1) := by decide +kernel
theorem dL_wanting_26 : decode cL_wanting 26 = .ok (.ifCond .ge 20, 3) := by decide +kernel
theorem dL_wanting_29 : decode cL_wanting 29 = .ok (.iload 4, 2) := by decide +kernel
theorem dL_wanting_31 : decode cL_wanting 31 = .ok (.aload_n 1, 1) := by decide +kernel
theorem dL_wanting_32 : decode cL_wanting 32 = .ok (.iload 6, 2) := by decide +kernel
theorem dL_wanting_34 : decode cL_wanting 34 = .ok (.iaload, 1) := by decide +kernel
theorem dL_wanting_35 : decode cL_wanting 35 = .ok (.ishr, 1) := by decide +kernel
theorem dL_wanting_36 : decode cL_wanting 36 = .ok (.iconst 1, 1) := by decide +kernel
theorem dL_wanting_37 : decode cL_wanting 37 = .ok (.iand, 1) := by decide +kernel
theorem dL_wanting_38 : decode cL_wanting 38 = .ok (.iconst 1, 1) := by decide +kernel
theorem dL_wanting_39 : decode cL_wanting 39 = .ok (.if_icmp .ne 7, 3) := by decide +kernel
theorem dL_wanting_42 : decode cL_wanting 42 = .ok (.iconst 1, 1) := by decide +kernel
theorem dL_wanting_43 : decode cL_wanting 43 = .ok (.goto 4, 3) := by decide +kernel
theorem dL_wanting_46 : decode cL_wanting 46 = .ok (.iconst 0, 1) := by decide +kernel
theorem dL_wanting_47 : decode cL_wanting 47 = .ok (.iadd, 1) := by decide +kernel
theorem dL_wanting_48 : decode cL_wanting 48 = .ok (.istore 5, 2) := by decide +kernel
theorem dL_wanting_50 : decode cL_wanting 50 = .ok (.iinc 6 1, 3) := by decide +kernel
theorem dL_wanting_53 : decode cL_wanting 53 = .ok (.goto (-47), 3) := by decide +kernel
theorem dL_wanting_56 : decode cL_wanting 56 = .ok (.iload 5, 2) := by decide +kernel
theorem dL_wanting_58 : decode cL_wanting 58 = .ok (.ireturn, 1) := by decide +kernel
theorem dL_value_0 : decode cL_value 0 = .ok (.bipush 16, 2) := by decide +kernel
theorem dL_value_2 : decode cL_value 2 = .ok (.newarray .int, 2) := by decide +kernel
theorem dL_value_4 : decode cL_value 4 = .ok (.astore 6, 2) := by decide +kernel
theorem dL_value_6 : decode cL_value 6 = .ok (.iconst 0, 1) := by decide +kernel
theorem dL_value_7 : decode cL_value 7 = .ok (.istore 7, 2) := by decide +kernel
theorem dL_value_9 : decode cL_value 9 = .ok (.iload 7, 2) := by decide +kernel
theorem dL_value_11 : decode cL_value 11 = .ok (.iload 4, 2) := by decide +kernel
theorem dL_value_13 : decode cL_value 13 = .ok (.if_icmp .gt 118, 3) := by decide +kernel
theorem dL_value_16 : decode cL_value 16 = .ok (.iconst 0, 1) := by decide +kernel
theorem dL_value_17 : decode cL_value 17 = .ok (.istore 8, 2) := by decide +kernel
theorem dL_value_19 : decode cL_value 19 = .ok (.iconst 0, 1) := by decide +kernel
theorem dL_value_20 : decode cL_value 20 = .ok (.istore 9, 2) := by decide +kernel
theorem dL_value_22 : decode cL_value 22 = .ok (.iload 9, 2) := by decide +kernel
theorem dL_value_24 : decode cL_value 24 = .ok (.iload 7, 2) := by decide +kernel
theorem dL_value_26 : decode cL_value 26 = .ok (.if_icmp .ge 47, 3) := by decide +kernel
theorem dL_value_29 : decode cL_value 29 = .ok (.aload_n 0, 1) := by decide +kernel
theorem dL_value_30 : decode cL_value 30 = .ok (.iload 7, 2) := by decide +kernel
theorem dL_value_32 : decode cL_value 32 = .ok (.iaload, 1) := by decide +kernel
theorem dL_value_33 : decode cL_value 33 = .ok (.iconst 3, 1) := by decide +kernel
theorem dL_value_34 : decode cL_value 34 = .ok (.if_icmp .ne 39, 3) := by decide +kernel
theorem dL_value_37 : decode cL_value 37 = .ok (.iload 8, 2) := by decide +kernel
theorem dL_value_39 : decode cL_value 39 = .ok (.aload_n 2, 1) := by decide +kernel
theorem dL_value_40 : decode cL_value 40 = .ok (.iload 7, 2) := by decide +kernel
theorem dL_value_42 : decode cL_value 42 = .ok (.iaload, 1) := by decide +kernel
theorem dL_value_43 : decode cL_value 43 = .ok (.iload 9, 2) := by decide +kernel
theorem dL_value_45 : decode cL_value 45 = .ok (.ishr, 1) := by decide +kernel
theorem dL_value_46 : decode cL_value 46 = .ok (.iconst 1, 1) := by decide +kernel
theorem dL_value_47 : decode cL_value 47 = .ok (.iand, 1) := by decide +kernel
theorem dL_value_48 : decode cL_value 48 = .ok (.iload 5, 2) := by decide +kernel
theorem dL_value_50 : decode cL_value 50 = .ok (.aload_n 1, 1) := by decide +kernel
theorem dL_value_51 : decode cL_value 51 = .ok (.iload 9, 2) := by decide +kernel
theorem dL_value_53 : decode cL_value 53 = .ok (.iaload, 1) := by decide +kernel
theorem dL_value_54 : decode cL_value 54 = .ok (.ishr, 1) := by decide +kernel
theorem dL_value_55 : decode cL_value 55 = .ok (.iconst 1, 1) := by decide +kernel
theorem dL_value_56 : decode cL_value 56 = .ok (.iand, 1) := by decide +kernel
theorem dL_value_57 : decode cL_value 57 = .ok (.imul, 1) := by decide +kernel
theorem dL_value_58 : decode cL_value 58 = .ok (.aload 6, 2) := by decide +kernel
theorem dL_value_60 : decode cL_value 60 = .ok (.iload 9, 2) := by decide +kernel
theorem dL_value_62 : decode cL_value 62 = .ok (.iaload, 1) := by decide +kernel
theorem dL_value_63 : decode cL_value 63 = .ok (.imul, 1) := by decide +kernel
theorem dL_value_64 : decode cL_value 64 = .ok (.iadd, 1) := by decide +kernel
theorem dL_value_65 : decode cL_value 65 = .ok (.istore 8, 2) := by decide +kernel
theorem dL_value_67 : decode cL_value 67 = .ok (.iinc 9 1, 3) := by decide +kernel
theorem dL_value_70 : decode cL_value 70 = .ok (.goto (-48), 3) := by decide +kernel
theorem dL_value_73 : decode cL_value 73 = .ok (.aload 6, 2) := by decide +kernel
theorem dL_value_75 : decode cL_value 75 = .ok (.iload 7, 2) := by decide +kernel
theorem dL_value_77 : decode cL_value 77 = .ok (.aload_n 0, 1) := by decide +kernel
theorem dL_value_78 : decode cL_value 78 = .ok (.iload 7, 2) := by decide +kernel
theorem dL_value_80 : decode cL_value 80 = .ok (.iaload, 1) := by decide +kernel
theorem dL_value_81 : decode cL_value 81 = .ok (.iconst 3, 1) := by decide +kernel
theorem dL_value_82 : decode cL_value 82 = .ok (.if_icmp .ne 20, 3) := by decide +kernel
theorem dL_value_85 : decode cL_value 85 = .ok (.iload 8, 2) := by decide +kernel
theorem dL_value_87 : decode cL_value 87 = .ok (.ldc 10, 2) := by decide +kernel
theorem dL_value_89 : decode cL_value 89 = .ok (.if_icmp .ge 8, 3) := by decide +kernel
theorem dL_value_92 : decode cL_value 92 = .ok (.iload 8, 2) := by decide +kernel
theorem dL_value_94 : decode cL_value 94 = .ok (.goto 30, 3) := by decide +kernel
theorem dL_value_97 : decode cL_value 97 = .ok (.ldc 10, 2) := by decide +kernel
theorem dL_value_99 : decode cL_value 99 = .ok (.goto 25, 3) := by decide +kernel
theorem dL_value_102 : decode cL_value 102 = .ok (.aload_n 0, 1) := by decide +kernel
theorem dL_value_103 : decode cL_value 103 = .ok (.iload 7, 2) := by decide +kernel
theorem dL_value_105 : decode cL_value 105 = .ok (.iaload, 1) := by decide +kernel
theorem dL_value_106 : decode cL_value 106 = .ok (.ifCond .ne 17, 3) := by decide +kernel
theorem dL_value_109 : decode cL_value 109 = .ok (.aload_n 3, 1) := by decide +kernel
theorem dL_value_110 : decode cL_value 110 = .ok (.iload 7, 2) := by decide +kernel
theorem dL_value_112 : decode cL_value 112 = .ok (.iaload, 1) := by decide +kernel
theorem dL_value_113 : decode cL_value 113 = .ok (.ifCond .le 10, 3) := by decide +kernel
theorem dL_value_116 : decode cL_value 116 = .ok (.aload_n 3, 1) := by decide +kernel
theorem dL_value_117 : decode cL_value 117 = .ok (.iload 7, 2) := by decide +kernel
theorem dL_value_119 : decode cL_value 119 = .ok (.iaload, 1) := by decide +kernel
theorem dL_value_120 : decode cL_value 120 = .ok (.goto 4, 3) := by decide +kernel
theorem dL_value_123 : decode cL_value 123 = .ok (.iconst 0, 1) := by decide +kernel
theorem dL_value_124 : decode cL_value 124 = .ok (.iastore, 1) := by decide +kernel
theorem dL_value_125 : decode cL_value 125 = .ok (.iinc 7 1, 3) := by decide +kernel
theorem dL_value_128 : decode cL_value 128 = .ok (.goto (-119), 3) := by decide +kernel
theorem dL_value_131 : decode cL_value 131 = .ok (.aload 6, 2) := by decide +kernel
theorem dL_value_133 : decode cL_value 133 = .ok (.iload 4, 2) := by decide +kernel
theorem dL_value_135 : decode cL_value 135 = .ok (.iaload, 1) := by decide +kernel
theorem dL_value_136 : decode cL_value 136 = .ok (.ireturn, 1) := by decide +kernel
set_option maxRecDepth 20000 in
theorem ggL_fewest_L_open : GoodIn wsL_fewest wsL_open := goodIn_r _ [5] (by decide +kernel) (by decide +kernel)
set_option maxRecDepth 20000 in
theorem gL_fewest_L_open : GoodIn wsL_fewest (va_wsS RL 11 yL_open wsL_open) := goodIn_app (goodIn_of _ (by decide +kernel)) ggL_fewest_L_open
set_option maxRecDepth 20000 in
theorem ggL_fewest_L_wanting : GoodIn wsL_fewest wsL_wanting := goodIn_r _ [8] (by decide +kernel) (by decide +kernel)
set_option maxRecDepth 20000 in
theorem gL_fewest_L_wanting : GoodIn wsL_fewest (va_wsS RL 17 yL_wanting wsL_wanting) := goodIn_app (goodIn_of _ (by decide +kernel)) ggL_fewest_L_wanting
theorem dL_fewest_0 : decode cL_fewest 0 = .ok (.bipush 16, 2) := by decide +kernel
theorem dL_fewest_2 : decode cL_fewest 2 = .ok (.newarray .int, 2) := by decide +kernel
theorem dL_fewest_4 : decode cL_fewest 4 = .ok (.astore 6, 2) := by decide +kernel
theorem dL_fewest_6 : decode cL_fewest 6 = .ok (.bipush 17, 2) := by decide +kernel
theorem dL_fewest_8 : decode cL_fewest 8 = .ok (.newarray .int, 2) := by decide +kernel
theorem dL_fewest_10 : decode cL_fewest 10 = .ok (.astore 7, 2) := by decide +kernel
theorem dL_fewest_12 : decode cL_fewest 12 = .ok (.iconst 0, 1) := by decide +kernel
theorem dL_fewest_13 : decode cL_fewest 13 = .ok (.istore 8, 2) := by decide +kernel
theorem dL_fewest_15 : decode cL_fewest 15 = .ok (.iconst 0, 1) := by decide +kernel
theorem dL_fewest_16 : decode cL_fewest 16 = .ok (.istore 9, 2) := by decide +kernel
theorem dL_fewest_18 : decode cL_fewest 18 = .ok (.iload 9, 2) := by decide +kernel
theorem dL_fewest_20 : decode cL_fewest 20 = .ok (.iload 5, 2) := by decide +kernel
theorem dL_fewest_22 : decode cL_fewest 22 = .ok (.if_icmp .ge 50, 3) := by decide +kernel
theorem dL_fewest_25 : decode cL_fewest 25 = .ok (.aload 4, 2) := by decide +kernel
theorem dL_fewest_27 : decode cL_fewest 27 = .ok (.iload 9, 2) := by decide +kernel
theorem dL_fewest_29 : decode cL_fewest 29 = .ok (.iaload, 1) := by decide +kernel
theorem dL_fewest_30 : decode cL_fewest 30 = .ok (.ifCond .ge 36, 3) := by decide +kernel
theorem dL_fewest_33 : decode cL_fewest 33 = .ok (.aload_n 0, 1) := by decide +kernel
theorem dL_fewest_34 : decode cL_fewest 34 = .ok (.iload 9, 2) := by decide +kernel
theorem dL_fewest_36 : decode cL_fewest 36 = .ok (.iaload, 1) := by decide +kernel
theorem dL_fewest_37 : decode cL_fewest 37 = .ok (.iconst 2, 1) := by decide +kernel
theorem dL_fewest_38 : decode cL_fewest 38 = .ok (.if_icmp .eq 18, 3) := by decide +kernel
theorem dL_fewest_41 : decode cL_fewest 41 = .ok (.aload_n 0, 1) := by decide +kernel
theorem dL_fewest_42 : decode cL_fewest 42 = .ok (.iload 9, 2) := by decide +kernel
theorem dL_fewest_44 : decode cL_fewest 44 = .ok (.iaload, 1) := by decide +kernel
theorem dL_fewest_45 : decode cL_fewest 45 = .ok (.iconst 1, 1) := by decide +kernel
theorem dL_fewest_46 : decode cL_fewest 46 = .ok (.if_icmp .ne 20, 3) := by decide +kernel
theorem dL_fewest_49 : decode cL_fewest 49 = .ok (.aload_n 2, 1) := by decide +kernel
theorem dL_fewest_50 : decode cL_fewest 50 = .ok (.iload 9, 2) := by decide +kernel
theorem dL_fewest_52 : decode cL_fewest 52 = .ok (.iaload, 1) := by decide +kernel
theorem dL_fewest_53 : decode cL_fewest 53 = .ok (.ifCond .le 13, 3) := by decide +kernel
theorem dL_fewest_56 : decode cL_fewest 56 = .ok (.aload 7, 2) := by decide +kernel
theorem dL_fewest_58 : decode cL_fewest 58 = .ok (.iload 8, 2) := by decide +kernel
theorem dL_fewest_60 : decode cL_fewest 60 = .ok (.iload 9, 2) := by decide +kernel
theorem dL_fewest_62 : decode cL_fewest 62 = .ok (.iastore, 1) := by decide +kernel
theorem dL_fewest_63 : decode cL_fewest 63 = .ok (.iinc 8 1, 3) := by decide +kernel
theorem dL_fewest_66 : decode cL_fewest 66 = .ok (.iinc 9 1, 3) := by decide +kernel
theorem dL_fewest_69 : decode cL_fewest 69 = .ok (.goto (-51), 3) := by decide +kernel
theorem dL_fewest_72 : decode cL_fewest 72 = .ok (.bipush 99, 2) := by decide +kernel
theorem dL_fewest_74 : decode cL_fewest 74 = .ok (.istore 9, 2) := by decide +kernel
theorem dL_fewest_76 : decode cL_fewest 76 = .ok (.iconst 0, 1) := by decide +kernel
theorem dL_fewest_77 : decode cL_fewest 77 = .ok (.istore 10, 2) := by decide +kernel
theorem dL_fewest_79 : decode cL_fewest 79 = .ok (.iload 10, 2) := by decide +kernel
theorem dL_fewest_81 : decode cL_fewest 81 = .ok (.iconst 1, 1) := by decide +kernel
theorem dL_fewest_82 : decode cL_fewest 82 = .ok (.iload 8, 2) := by decide +kernel
theorem dL_fewest_84 : decode cL_fewest 84 = .ok (.ishl, 1) := by decide +kernel
theorem dL_fewest_85 : decode cL_fewest 85 = .ok (.if_icmp .ge 140, 3) := by decide +kernel
theorem dL_fewest_88 : decode cL_fewest 88 = .ok (.iconst 0, 1) := by decide +kernel
theorem dL_fewest_89 : decode cL_fewest 89 = .ok (.istore 11, 2) := by decide +kernel
theorem dL_fewest_91 : decode cL_fewest 91 = .ok (.iload 11, 2) := by decide +kernel
theorem dL_fewest_93 : decode cL_fewest 93 = .ok (.iload 5, 2) := by decide +kernel
theorem dL_fewest_95 : decode cL_fewest 95 = .ok (.if_icmp .ge 19, 3) := by decide +kernel
theorem dL_fewest_98 : decode cL_fewest 98 = .ok (.aload 6, 2) := by decide +kernel
theorem dL_fewest_100 : decode cL_fewest 100 = .ok (.iload 11, 2) := by decide +kernel
theorem dL_fewest_102 : decode cL_fewest 102 = .ok (.aload 4, 2) := by decide +kernel
theorem dL_fewest_104 : decode cL_fewest 104 = .ok (.iload 11, 2) := by decide +kernel
theorem dL_fewest_106 : decode cL_fewest 106 = .ok (.iaload, 1) := by decide +kernel
theorem dL_fewest_107 : decode cL_fewest 107 = .ok (.iastore, 1) := by decide +kernel
theorem dL_fewest_108 : decode cL_fewest 108 = .ok (.iinc 11 1, 3) := by decide +kernel
theorem dL_fewest_111 : decode cL_fewest 111 = .ok (.goto (-20), 3) := by decide +kernel
theorem dL_fewest_114 : decode cL_fewest 114 = .ok (.iconst 0, 1) := by decide +kernel
theorem dL_fewest_115 : decode cL_fewest 115 = .ok (.istore 11, 2) := by decide +kernel
theorem dL_fewest_117 : decode cL_fewest 117 = .ok (.iload 11, 2) := by decide +kernel
theorem dL_fewest_119 : decode cL_fewest 119 = .ok (.iload 8, 2) := by decide +kernel
theorem dL_fewest_121 : decode cL_fewest 121 = .ok (.if_icmp .ge 56, 3) := by decide +kernel
theorem dL_fewest_124 : decode cL_fewest 124 = .ok (.aload 7, 2) := by decide +kernel
theorem dL_fewest_126 : decode cL_fewest 126 = .ok (.iload 11, 2) := by decide +kernel
theorem dL_fewest_128 : decode cL_fewest 128 = .ok (.iaload, 1) := by decide +kernel
theorem dL_fewest_129 : decode cL_fewest 129 = .ok (.istore 12, 2) := by decide +kernel
theorem dL_fewest_131 : decode cL_fewest 131 = .ok (.aload 6, 2) := by decide +kernel
theorem dL_fewest_133 : decode cL_fewest 133 = .ok (.iload 12, 2) := by decide +kernel
theorem dL_fewest_135 : decode cL_fewest 135 = .ok (.aload_n 0, 1) := by decide +kernel
theorem dL_fewest_136 : decode cL_fewest 136 = .ok (.iload 12, 2) := by decide +kernel
theorem dL_fewest_138 : decode cL_fewest 138 = .ok (.iaload, 1) := by decide +kernel
theorem dL_fewest_139 : decode cL_fewest 139 = .ok (.iconst 1, 1) := by decide +kernel
theorem dL_fewest_140 : decode cL_fewest 140 = .ok (.if_icmp .ne 13, 3) := by decide +kernel
theorem dL_fewest_143 : decode cL_fewest 143 = .ok (.iload 10, 2) := by decide +kernel
theorem dL_fewest_145 : decode cL_fewest 145 = .ok (.iload 11, 2) := by decide +kernel
theorem dL_fewest_147 : decode cL_fewest 147 = .ok (.ishr, 1) := by decide +kernel
theorem dL_fewest_148 : decode cL_fewest 148 = .ok (.iconst 1, 1) := by decide +kernel
theorem dL_fewest_149 : decode cL_fewest 149 = .ok (.iand, 1) := by decide +kernel
theorem dL_fewest_150 : decode cL_fewest 150 = .ok (.goto 20, 3) := by decide +kernel
theorem dL_fewest_153 : decode cL_fewest 153 = .ok (.iload 10, 2) := by decide +kernel
theorem dL_fewest_155 : decode cL_fewest 155 = .ok (.iload 11, 2) := by decide +kernel
theorem dL_fewest_157 : decode cL_fewest 157 = .ok (.ishr, 1) := by decide +kernel
theorem dL_fewest_158 : decode cL_fewest 158 = .ok (.iconst 1, 1) := by decide +kernel
theorem dL_fewest_159 : decode cL_fewest 159 = .ok (.iand, 1) := by decide +kernel
theorem dL_fewest_160 : decode cL_fewest 160 = .ok (.iconst 1, 1) := by decide +kernel
theorem dL_fewest_161 : decode cL_fewest 161 = .ok (.if_icmp .ne 8, 3) := by decide +kernel
theorem dL_fewest_164 : decode cL_fewest 164 = .ok (.bipush 99, 2) := by decide +kernel
theorem dL_fewest_166 : decode cL_fewest 166 = .ok (.goto 4, 3) := by decide +kernel
theorem dL_fewest_169 : decode cL_fewest 169 = .ok (.iconst 0, 1) := by decide +kernel
theorem dL_fewest_170 : decode cL_fewest 170 = .ok (.iastore, 1) := by decide +kernel
theorem dL_fewest_171 : decode cL_fewest 171 = .ok (.iinc 11 1, 3) := by decide +kernel
theorem dL_fewest_174 : decode cL_fewest 174 = .ok (.goto (-57), 3) := by decide +kernel
theorem dL_fewest_177 : decode cL_fewest 177 = .ok (.aload_n 0, 1) := by decide +kernel
theorem dL_fewest_178 : decode cL_fewest 178 = .ok (.aload_n 1, 1) := by decide +kernel
theorem dL_fewest_179 : decode cL_fewest 179 = .ok (.aload_n 2, 1) := by decide +kernel
theorem dL_fewest_180 : decode cL_fewest 180 = .ok (.aload_n 3, 1) := by decide +kernel
theorem dL_fewest_181 : decode cL_fewest 181 = .ok (.aload 6, 2) := by decide +kernel
theorem dL_fewest_183 : decode cL_fewest 183 = .ok (.iload 5, 2) := by decide +kernel
theorem dL_fewest_185 : decode cL_fewest 185 = .ok (.invokestatic 11, 3) := by decide +kernel
theorem dL_fewest_188 : decode cL_fewest 188 = .ok (.istore 11, 2) := by decide +kernel
theorem dL_fewest_190 : decode cL_fewest 190 = .ok (.aload_n 0, 1) := by decide +kernel
theorem dL_fewest_191 : decode cL_fewest 191 = .ok (.aload_n 1, 1) := by decide +kernel
theorem dL_fewest_192 : decode cL_fewest 192 = .ok (.aload 4, 2) := by decide +kernel
theorem dL_fewest_194 : decode cL_fewest 194 = .ok (.iload 5, 2) := by decide +kernel
theorem dL_fewest_196 : decode cL_fewest 196 = .ok (.iload 11, 2) := by decide +kernel
theorem dL_fewest_198 : decode cL_fewest 198 = .ok (.invokestatic 17, 3) := by decide +kernel
theorem dL_fewest_201 : decode cL_fewest 201 = .ok (.istore 12, 2) := by decide +kernel
theorem dL_fewest_203 : decode cL_fewest 203 = .ok (.iload 12, 2) := by decide +kernel
theorem dL_fewest_205 : decode cL_fewest 205 = .ok (.iload 9, 2) := by decide +kernel
theorem dL_fewest_207 : decode cL_fewest 207 = .ok (.if_icmp .ge 8, 3) := by decide +kernel
theorem dL_fewest_210 : decode cL_fewest 210 = .ok (.iload 12, 2) := by decide +kernel
theorem dL_fewest_212 : decode cL_fewest 212 = .ok (.goto 5, 3) := by decide +kernel
theorem dL_fewest_215 : decode cL_fewest 215 = .ok (.iload 9, 2) := by decide +kernel
theorem dL_fewest_217 : decode cL_fewest 217 = .ok (.istore 9, 2) := by decide +kernel
theorem dL_fewest_219 : decode cL_fewest 219 = .ok (.iinc 10 1, 3) := by decide +kernel
theorem dL_fewest_222 : decode cL_fewest 222 = .ok (.goto (-143), 3) := by decide +kernel
theorem dL_fewest_225 : decode cL_fewest 225 = .ok (.iload 9, 2) := by decide +kernel
theorem dL_fewest_227 : decode cL_fewest 227 = .ok (.ireturn, 1) := by decide +kernel
theorem dL_carried_0 : decode cL_carried 0 = .ok (.iconst 1, 1) := by decide +kernel
theorem dL_carried_1 : decode cL_carried 1 = .ok (.iload_n 3, 1) := by decide +kernel
theorem dL_carried_2 : decode cL_carried 2 = .ok (.ishl, 1) := by decide +kernel
theorem dL_carried_3 : decode cL_carried 3 = .ok (.istore 4, 2) := by decide +kernel
theorem dL_carried_5 : decode cL_carried 5 = .ok (.iconst 0, 1) := by decide +kernel
theorem dL_carried_6 : decode cL_carried 6 = .ok (.istore 5, 2) := by decide +kernel
theorem dL_carried_8 : decode cL_carried 8 = .ok (.iload_n 3, 1) := by decide +kernel
theorem dL_carried_9 : decode cL_carried 9 = .ok (.iconst 1, 1) := by decide +kernel
theorem dL_carried_10 : decode cL_carried 10 = .ok (.iadd, 1) := by decide +kernel
theorem dL_carried_11 : decode cL_carried 11 = .ok (.istore 6, 2) := by decide +kernel
theorem dL_carried_13 : decode cL_carried 13 = .ok (.iload 6, 2) := by decide +kernel
theorem dL_carried_15 : decode cL_carried 15 = .ok (.iload_n 2, 1) := by decide +kernel
theorem dL_carried_16 : decode cL_carried 16 = .ok (.if_icmp .ge 95, 3) := by decide +kernel
theorem dL_carried_19 : decode cL_carried 19 = .ok (.iconst 0, 1) := by decide +kernel
theorem dL_carried_20 : decode cL_carried 20 = .ok (.istore 7, 2) := by decide +kernel
theorem dL_carried_22 : decode cL_carried 22 = .ok (.iload_n 3, 1) := by decide +kernel
theorem dL_carried_23 : decode cL_carried 23 = .ok (.istore 8, 2) := by decide +kernel
theorem dL_carried_25 : decode cL_carried 25 = .ok (.iload 8, 2) := by decide +kernel
theorem dL_carried_27 : decode cL_carried 27 = .ok (.iload 6, 2) := by decide +kernel
theorem dL_carried_29 : decode cL_carried 29 = .ok (.if_icmp .ge 43, 3) := by decide +kernel
theorem dL_carried_32 : decode cL_carried 32 = .ok (.iload 7, 2) := by decide +kernel
theorem dL_carried_34 : decode cL_carried 34 = .ok (.aload_n 0, 1) := by decide +kernel
theorem dL_carried_35 : decode cL_carried 35 = .ok (.iload 6, 2) := by decide +kernel
theorem dL_carried_37 : decode cL_carried 37 = .ok (.iaload, 1) := by decide +kernel
theorem dL_carried_38 : decode cL_carried 38 = .ok (.iconst 3, 1) := by decide +kernel
theorem dL_carried_39 : decode cL_carried 39 = .ok (.if_icmp .ne 23, 3) := by decide +kernel
theorem dL_carried_42 : decode cL_carried 42 = .ok (.iload 4, 2) := by decide +kernel
theorem dL_carried_44 : decode cL_carried 44 = .ok (.iload 8, 2) := by decide +kernel
theorem dL_carried_46 : decode cL_carried 46 = .ok (.ishr, 1) := by decide +kernel
theorem dL_carried_47 : decode cL_carried 47 = .ok (.iconst 1, 1) := by decide +kernel
theorem dL_carried_48 : decode cL_carried 48 = .ok (.iand, 1) := by decide +kernel
theorem dL_carried_49 : decode cL_carried 49 = .ok (.aload_n 1, 1) := by decide +kernel
theorem dL_carried_50 : decode cL_carried 50 = .ok (.iload 6, 2) := by decide +kernel
theorem dL_carried_52 : decode cL_carried 52 = .ok (.iaload, 1) := by decide +kernel
theorem dL_carried_53 : decode cL_carried 53 = .ok (.iload 8, 2) := by decide +kernel
theorem dL_carried_55 : decode cL_carried 55 = .ok (.ishr, 1) := by decide +kernel
theorem dL_carried_56 : decode cL_carried 56 = .ok (.iconst 1, 1) := by decide +kernel
theorem dL_carried_57 : decode cL_carried 57 = .ok (.iand, 1) := by decide +kernel
theorem dL_carried_58 : decode cL_carried 58 = .ok (.imul, 1) := by decide +kernel
theorem dL_carried_59 : decode cL_carried 59 = .ok (.goto 4, 3) := by decide +kernel
theorem dL_carried_62 : decode cL_carried 62 = .ok (.iconst 0, 1) := by decide +kernel
theorem dL_carried_63 : decode cL_carried 63 = .ok (.iadd, 1) := by decide +kernel
theorem dL_carried_64 : decode cL_carried 64 = .ok (.istore 7, 2) := by decide +kernel
theorem dL_carried_66 : decode cL_carried 66 = .ok (.iinc 8 1, 3) := by decide +kernel
theorem dL_carried_69 : decode cL_carried 69 = .ok (.goto (-44), 3) := by decide +kernel
theorem dL_carried_72 : decode cL_carried 72 = .ok (.iload 4, 2) := by decide +kernel
theorem dL_carried_74 : decode cL_carried 74 = .ok (.iload 7, 2) := by decide +kernel
theorem dL_carried_76 : decode cL_carried 76 = .ok (.ifCond .le 10, 3) := by decide +kernel
theorem dL_carried_79 : decode cL_carried 79 = .ok (.iconst 1, 1) := by decide +kernel
theorem dL_carried_80 : decode cL_carried 80 = .ok (.iload 6, 2) := by decide +kernel
theorem dL_carried_82 : decode cL_carried 82 = .ok (.ishl, 1) := by decide +kernel
theorem dL_carried_83 : decode cL_carried 83 = .ok (.goto 4, 3) := by decide +kernel
theorem dL_carried_86 : decode cL_carried 86 = .ok (.iconst 0, 1) := by decide +kernel
theorem dL_carried_87 : decode cL_carried 87 = .ok (.ior, 1) := by decide +kernel
theorem dL_carried_88 : decode cL_carried 88 = .ok (.istore 4, 2) := by decide +kernel
theorem dL_carried_90 : decode cL_carried 90 = .ok (.iload 5, 2) := by decide +kernel
theorem dL_carried_92 : decode cL_carried 92 = .ok (.iload 7, 2) := by decide +kernel
theorem dL_carried_94 : decode cL_carried 94 = .ok (.ifCond .le 7, 3) := by decide +kernel
theorem dL_carried_97 : decode cL_carried 97 = .ok (.iconst 1, 1) := by decide +kernel
theorem dL_carried_98 : decode cL_carried 98 = .ok (.goto 4, 3) := by decide +kernel
theorem dL_carried_101 : decode cL_carried 101 = .ok (.iconst 0, 1) := by decide +kernel
theorem dL_carried_102 : decode cL_carried 102 = .ok (.iadd, 1) := by decide +kernel
theorem dL_carried_103 : decode cL_carried 103 = .ok (.istore 5, 2) := by decide +kernel
theorem dL_carried_105 : decode cL_carried 105 = .ok (.iinc 6 1, 3) := by decide +kernel
theorem dL_carried_108 : decode cL_carried 108 = .ok (.goto (-95), 3) := by decide +kernel
theorem dL_carried_111 : decode cL_carried 111 = .ok (.iload 5, 2) := by decide +kernel
theorem dL_carried_113 : decode cL_carried 113 = .ok (.ireturn, 1) := by decide +kernel
set_option maxRecDepth 20000 in
theorem ggL_tells_L_open : GoodIn wsL_tells wsL_open := goodIn_r _ [4] (by decide +kernel) (by decide +kernel)
set_option maxRecDepth 20000 in
theorem gL_tells_L_open : GoodIn wsL_tells (va_wsS RL 11 yL_open wsL_open) := goodIn_app (goodIn_of _ (by decide +kernel)) ggL_tells_L_open
set_option maxRecDepth 20000 in
theorem ggL_tells_X3_box : GoodIn wsL_tells wsX3_box := goodIn_ca (goodIn_ca (goodIn_r _ [9, 10, 11, 12, 13, 8, 14, 15, 16, 17, 18, 19, 20, 21, 22, 23, 24, 25, 26, 27, 28, 29, 30, 31, 32, 33, 34, 35, 36, 37, 38, 39, 40, 41, 42, 43, 44, 45, 46, 47, 48, 49, 50, 51, 52, 53, 54, 55, 56, 57, 58, 59, 60, 61, 62, 63, 64, 65, 66, 67, 68, 69, 70, 71, 72, 73, 74, 75, 76, 77, 78, 79, 80, 81, 82, 83, 84, 85, 86, 87, 88, 89, 90, 91, 92, 93, 94, 95, 96, 97, 98, 99, 100, 101, 102, 187, 188, 189, 190, 191, 192, 193, 194, 195, 196, 197] (by decide +kernel) (by decide +kernel)) (goodIn_sub (fun _ h => List.mem_cons_of_mem _ (List.mem_append_left _ (List.mem_append_right _ h))) (by decide +kernel))) (goodIn_sub (fun _ h => List.mem_cons_of_mem _ (List.mem_append_right _ h)) (by decide +kernel))
set_option maxRecDepth 20000 in
theorem gL_tells_X3_box : GoodIn wsL_tells (wsV RL 23 RX3 yX3_box wsX3_box) := goodIn_app (goodIn_of _ (by decide +kernel)) ggL_tells_X3_box
set_option maxRecDepth 20000 in
theorem ggL_tells_L_value : GoodIn wsL_tells wsL_value := goodIn_r _ [105, 106, 107] (by decide +kernel) (by decide +kernel)
set_option maxRecDepth 20000 in
theorem gL_tells_L_value : GoodIn wsL_tells (va_wsS RL 27 yL_value wsL_value) := goodIn_app (goodIn_of _ (by decide +kernel)) ggL_tells_L_value
set_option maxRecDepth 20000 in
theorem ggL_tells_L_carried : GoodIn wsL_tells wsL_carried := goodIn_r _ [110] (by decide +kernel) (by decide +kernel)
set_option maxRecDepth 20000 in
theorem gL_tells_L_carried : GoodIn wsL_tells (va_wsS RL 31 yL_carried wsL_carried) := goodIn_app (goodIn_of _ (by decide +kernel)) ggL_tells_L_carried
set_option maxRecDepth 20000 in
theorem ggL_tells_X3_part : GoodIn wsL_tells wsX3_part := goodIn_ca (goodIn_ca (goodIn_r _ [114, 10, 115, 116, 8, 117, 15, 16, 22, 23, 24, 25, 26, 27, 28, 29, 30, 18, 31, 32, 33, 34, 35, 36, 21, 37, 38, 39, 40, 41, 42, 43, 44, 45, 46, 47, 48, 49, 50, 51, 52, 53, 54, 55, 56, 57, 58, 59, 60, 61, 118, 119, 120, 121, 122, 123, 124, 125, 126, 127, 128, 129, 100, 101, 102, 130, 131, 132, 187, 188, 189, 190, 191, 192, 193, 194, 195, 196, 197] (by decide +kernel) (by decide +kernel)) (goodIn_sub (fun _ h => List.mem_cons_of_mem _ (List.mem_append_left _ (List.mem_append_right _ h))) (by decide +kernel))) (goodIn_sub (fun _ h => List.mem_cons_of_mem _ (List.mem_append_right _ h)) (by decide +kernel))
set_option maxRecDepth 20000 in
theorem gL_tells_X3_part : GoodIn wsL_tells (wsV RL 35 RX3 yX3_part wsX3_part) := goodIn_app (goodIn_of _ (by decide +kernel)) ggL_tells_X3_part
set_option maxRecDepth 20000 in
theorem ggL_tells_L_wanting : GoodIn wsL_tells wsL_wanting := goodIn_r _ [135] (by decide +kernel) (by decide +kernel)
set_option maxRecDepth 20000 in
theorem gL_tells_L_wanting : GoodIn wsL_tells (va_wsS RL 17 yL_wanting wsL_wanting) := goodIn_app (goodIn_of _ (by decide +kernel)) ggL_tells_L_wanting
set_option maxRecDepth 20000 in
theorem ggL_tells_X3_count : GoodIn wsL_tells wsX3_count := goodIn_ca (goodIn_r _ [139, 10, 22, 23, 8, 24, 25, 26, 27, 28, 29, 30, 18, 31, 32, 33, 34, 35, 36, 21, 37, 38, 39, 40, 41, 42, 43, 44, 45, 46, 47, 48, 49, 50, 51, 52, 53, 54, 55, 56, 57, 58, 59, 60, 61, 140, 141, 142, 143, 144, 145, 146, 147, 148, 149, 150, 151, 152, 153, 129, 100, 101, 102, 154, 155, 156, 157, 158, 159, 160, 161, 162, 163, 164, 165, 166, 167, 168, 169, 170, 171, 187, 188, 189, 190, 191, 192, 193, 194, 195, 196, 197, 198, 199, 200] (by decide +kernel) (by decide +kernel)) (goodIn_sub (fun _ h => List.mem_cons_of_mem _ (List.mem_append_right _ h)) (by decide +kernel))
set_option maxRecDepth 20000 in
theorem gL_tells_X3_count : GoodIn wsL_tells (wsV RL 38 RX3 yX3_count wsX3_count) := goodIn_app (goodIn_of _ (by decide +kernel)) ggL_tells_X3_count
set_option maxRecDepth 20000 in
theorem ggL_tells_X3_mostCarried : GoodIn wsL_tells wsX3_mostCarried := goodIn_r _ [175, 10, 145, 18, 146, 147, 21, 176, 177, 178, 43, 42, 44, 8, 45, 51, 52, 179, 158, 159, 160, 161, 162, 163, 187, 188, 189, 190, 191, 192, 193, 194, 195, 196, 197] (by decide +kernel) (by decide +kernel)
set_option maxRecDepth 20000 in
theorem gL_tells_X3_mostCarried : GoodIn wsL_tells (wsV RL 42 RX3 yX3_mostCarried wsX3_mostCarried) := goodIn_app (goodIn_of _ (by decide +kernel)) ggL_tells_X3_mostCarried
set_option maxRecDepth 20000 in
theorem ggL_tells_X3_filled : GoodIn wsL_tells wsX3_filled := goodIn_r _ [183, 10, 30, 18, 31, 32, 33, 34, 35, 36, 21, 37, 38, 39, 40, 41, 42, 43, 44, 8, 45, 46, 47, 48, 49, 50, 51, 52, 53, 54, 55, 56, 57, 58, 59, 60, 61, 184, 185, 186, 151, 152, 153, 129, 100, 101, 102, 187, 188, 189, 190, 191, 192, 193, 194, 195, 196, 197] (by decide +kernel) (by decide +kernel)
set_option maxRecDepth 20000 in
theorem gL_tells_X3_filled : GoodIn wsL_tells (wsV RL 46 RX3 yX3_filled wsX3_filled) := goodIn_app (goodIn_of _ (by decide +kernel)) ggL_tells_X3_filled
theorem dL_tells_0 : decode cL_tells 0 = .ok (.aload_n 1, 1) := by decide +kernel
theorem dL_tells_1 : decode cL_tells 1 = .ok (.aload_n 2, 1) := by decide +kernel
theorem dL_tells_2 : decode cL_tells 2 = .ok (.aload_n 3, 1) := by decide +kernel
theorem dL_tells_3 : decode cL_tells 3 = .ok (.aload 4, 2) := by decide +kernel
theorem dL_tells_5 : decode cL_tells 5 = .ok (.aload 5, 2) := by decide +kernel
theorem dL_tells_7 : decode cL_tells 7 = .ok (.iload 6, 2) := by decide +kernel
theorem dL_tells_9 : decode cL_tells 9 = .ok (.invokestatic 11, 3) := by decide +kernel
theorem dL_tells_12 : decode cL_tells 12 = .ok (.istore 7, 2) := by decide +kernel
theorem dL_tells_14 : decode cL_tells 14 = .ok (.iconst 0, 1) := by decide +kernel
theorem dL_tells_15 : decode cL_tells 15 = .ok (.istore 8, 2) := by decide +kernel
theorem dL_tells_17 : decode cL_tells 17 = .ok (.iconst 0, 1) := by decide +kernel
theorem dL_tells_18 : decode cL_tells 18 = .ok (.istore 9, 2) := by decide +kernel
theorem dL_tells_20 : decode cL_tells 20 = .ok (.iconst (-1), 1) := by decide +kernel
theorem dL_tells_21 : decode cL_tells 21 = .ok (.istore 10, 2) := by decide +kernel
theorem dL_tells_23 : decode cL_tells 23 = .ok (.iconst 0, 1) := by decide +kernel
theorem dL_tells_24 : decode cL_tells 24 = .ok (.istore 11, 2) := by decide +kernel
theorem dL_tells_26 : decode cL_tells 26 = .ok (.iconst (-1), 1) := by decide +kernel
theorem dL_tells_27 : decode cL_tells 27 = .ok (.istore 12, 2) := by decide +kernel
theorem dL_tells_29 : decode cL_tells 29 = .ok (.iconst 0, 1) := by decide +kernel
theorem dL_tells_30 : decode cL_tells 30 = .ok (.istore 13, 2) := by decide +kernel
theorem dL_tells_32 : decode cL_tells 32 = .ok (.iconst 0, 1) := by decide +kernel
theorem dL_tells_33 : decode cL_tells 33 = .ok (.istore 14, 2) := by decide +kernel
theorem dL_tells_35 : decode cL_tells 35 = .ok (.iload 14, 2) := by decide +kernel
theorem dL_tells_37 : decode cL_tells 37 = .ok (.iload 6, 2) := by decide +kernel
theorem dL_tells_39 : decode cL_tells 39 = .ok (.if_icmp .ge 341, 3) := by decide +kernel
theorem dL_tells_42 : decode cL_tells 42 = .ok (.iload 7, 2) := by decide +kernel
theorem dL_tells_44 : decode cL_tells 44 = .ok (.aload_n 2, 1) := by decide +kernel
theorem dL_tells_45 : decode cL_tells 45 = .ok (.iload 14, 2) := by decide +kernel
theorem dL_tells_47 : decode cL_tells 47 = .ok (.iaload, 1) := by decide +kernel
theorem dL_tells_48 : decode cL_tells 48 = .ok (.ishr, 1) := by decide +kernel
theorem dL_tells_49 : decode cL_tells 49 = .ok (.iconst 1, 1) := by decide +kernel
theorem dL_tells_50 : decode cL_tells 50 = .ok (.iand, 1) := by decide +kernel
theorem dL_tells_51 : decode cL_tells 51 = .ok (.istore 15, 2) := by decide +kernel
theorem dL_tells_53 : decode cL_tells 53 = .ok (.aload_n 1, 1) := by decide +kernel
theorem dL_tells_54 : decode cL_tells 54 = .ok (.iload 14, 2) := by decide +kernel
theorem dL_tells_56 : decode cL_tells 56 = .ok (.iaload, 1) := by decide +kernel
theorem dL_tells_57 : decode cL_tells 57 = .ok (.iconst 3, 1) := by decide +kernel
theorem dL_tells_58 : decode cL_tells 58 = .ok (.if_icmp .ge 21, 3) := by decide +kernel
theorem dL_tells_61 : decode cL_tells 61 = .ok (.aload 5, 2) := by decide +kernel
theorem dL_tells_63 : decode cL_tells 63 = .ok (.iload 14, 2) := by decide +kernel
theorem dL_tells_65 : decode cL_tells 65 = .ok (.iaload, 1) := by decide +kernel
theorem dL_tells_66 : decode cL_tells 66 = .ok (.ifCond .ge 13, 3) := by decide +kernel
theorem dL_tells_69 : decode cL_tells 69 = .ok (.iload 15, 2) := by decide +kernel
theorem dL_tells_71 : decode cL_tells 71 = .ok (.iconst 1, 1) := by decide +kernel
theorem dL_tells_72 : decode cL_tells 72 = .ok (.if_icmp .ne 7, 3) := by decide +kernel
theorem dL_tells_75 : decode cL_tells 75 = .ok (.iconst 1, 1) := by decide +kernel
theorem dL_tells_76 : decode cL_tells 76 = .ok (.goto 4, 3) := by decide +kernel
theorem dL_tells_79 : decode cL_tells 79 = .ok (.iconst 0, 1) := by decide +kernel
theorem dL_tells_80 : decode cL_tells 80 = .ok (.istore 16, 2) := by decide +kernel
theorem dL_tells_82 : decode cL_tells 82 = .ok (.aload_n 0, 1) := by decide +kernel
theorem dL_tells_83 : decode cL_tells 83 = .ok (.iload 14, 2) := by decide +kernel
theorem dL_tells_85 : decode cL_tells 85 = .ok (.iconst 0, 1) := by decide +kernel
theorem dL_tells_86 : decode cL_tells 86 = .ok (.invokevirtual 23, 3) := by decide +kernel
theorem dL_tells_89 : decode cL_tells 89 = .ok (.aload_n 1, 1) := by decide +kernel
theorem dL_tells_90 : decode cL_tells 90 = .ok (.iload 14, 2) := by decide +kernel
theorem dL_tells_92 : decode cL_tells 92 = .ok (.iaload, 1) := by decide +kernel
theorem dL_tells_93 : decode cL_tells 93 = .ok (.if_icmp .ne 165, 3) := by decide +kernel
theorem dL_tells_96 : decode cL_tells 96 = .ok (.aload_n 0, 1) := by decide +kernel
theorem dL_tells_97 : decode cL_tells 97 = .ok (.iload 14, 2) := by decide +kernel
theorem dL_tells_99 : decode cL_tells 99 = .ok (.iconst 1, 1) := by decide +kernel
theorem dL_tells_100 : decode cL_tells 100 = .ok (.invokevirtual 23, 3) := by decide +kernel
theorem dL_tells_103 : decode cL_tells 103 = .ok (.aload_n 2, 1) := by decide +kernel
theorem dL_tells_104 : decode cL_tells 104 = .ok (.iload 14, 2) := by decide +kernel
theorem dL_tells_106 : decode cL_tells 106 = .ok (.iaload, 1) := by decide +kernel
theorem dL_tells_107 : decode cL_tells 107 = .ok (.if_icmp .ne 151, 3) := by decide +kernel
theorem dL_tells_110 : decode cL_tells 110 = .ok (.aload_n 0, 1) := by decide +kernel
theorem dL_tells_111 : decode cL_tells 111 = .ok (.iload 14, 2) := by decide +kernel
theorem dL_tells_113 : decode cL_tells 113 = .ok (.iconst 2, 1) := by decide +kernel
theorem dL_tells_114 : decode cL_tells 114 = .ok (.invokevirtual 23, 3) := by decide +kernel
theorem dL_tells_117 : decode cL_tells 117 = .ok (.aload_n 3, 1) := by decide +kernel
theorem dL_tells_118 : decode cL_tells 118 = .ok (.iload 14, 2) := by decide +kernel
theorem dL_tells_120 : decode cL_tells 120 = .ok (.iaload, 1) := by decide +kernel
theorem dL_tells_121 : decode cL_tells 121 = .ok (.if_icmp .ne 137, 3) := by decide +kernel
theorem dL_tells_124 : decode cL_tells 124 = .ok (.aload_n 0, 1) := by decide +kernel
theorem dL_tells_125 : decode cL_tells 125 = .ok (.iload 14, 2) := by decide +kernel
theorem dL_tells_127 : decode cL_tells 127 = .ok (.iconst 3, 1) := by decide +kernel
theorem dL_tells_128 : decode cL_tells 128 = .ok (.invokevirtual 23, 3) := by decide +kernel
theorem dL_tells_131 : decode cL_tells 131 = .ok (.aload_n 1, 1) := by decide +kernel
theorem dL_tells_132 : decode cL_tells 132 = .ok (.iload 14, 2) := by decide +kernel
theorem dL_tells_134 : decode cL_tells 134 = .ok (.iaload, 1) := by decide +kernel
theorem dL_tells_135 : decode cL_tells 135 = .ok (.iconst 2, 1) := by decide +kernel
theorem dL_tells_136 : decode cL_tells 136 = .ok (.if_icmp .ne 11, 3) := by decide +kernel
theorem dL_tells_139 : decode cL_tells 139 = .ok (.aload 4, 2) := by decide +kernel
theorem dL_tells_141 : decode cL_tells 141 = .ok (.iload 14, 2) := by decide +kernel
theorem dL_tells_143 : decode cL_tells 143 = .ok (.iaload, 1) := by decide +kernel
theorem dL_tells_144 : decode cL_tells 144 = .ok (.goto 4, 3) := by decide +kernel
theorem dL_tells_147 : decode cL_tells 147 = .ok (.iconst (-1), 1) := by decide +kernel
theorem dL_tells_148 : decode cL_tells 148 = .ok (.if_icmp .ne 110, 3) := by decide +kernel
theorem dL_tells_151 : decode cL_tells 151 = .ok (.aload_n 0, 1) := by decide +kernel
theorem dL_tells_152 : decode cL_tells 152 = .ok (.iload 14, 2) := by decide +kernel
theorem dL_tells_154 : decode cL_tells 154 = .ok (.iconst 4, 1) := by decide +kernel
theorem dL_tells_155 : decode cL_tells 155 = .ok (.invokevirtual 23, 3) := by decide +kernel
theorem dL_tells_158 : decode cL_tells 158 = .ok (.aload 5, 2) := by decide +kernel
theorem dL_tells_160 : decode cL_tells 160 = .ok (.iload 14, 2) := by decide +kernel
theorem dL_tells_162 : decode cL_tells 162 = .ok (.iaload, 1) := by decide +kernel
theorem dL_tells_163 : decode cL_tells 163 = .ok (.ifCond .ge 7, 3) := by decide +kernel
theorem dL_tells_166 : decode cL_tells 166 = .ok (.iconst (-1), 1) := by decide +kernel
theorem dL_tells_167 : decode cL_tells 167 = .ok (.goto 8, 3) := by decide +kernel
theorem dL_tells_170 : decode cL_tells 170 = .ok (.aload 5, 2) := by decide +kernel
theorem dL_tells_172 : decode cL_tells 172 = .ok (.iload 14, 2) := by decide +kernel
theorem dL_tells_174 : decode cL_tells 174 = .ok (.iaload, 1) := by decide +kernel
theorem dL_tells_175 : decode cL_tells 175 = .ok (.if_icmp .ne 83, 3) := by decide +kernel
theorem dL_tells_178 : decode cL_tells 178 = .ok (.aload_n 0, 1) := by decide +kernel
theorem dL_tells_179 : decode cL_tells 179 = .ok (.iload 14, 2) := by decide +kernel
theorem dL_tells_181 : decode cL_tells 181 = .ok (.iconst 5, 1) := by decide +kernel
theorem dL_tells_182 : decode cL_tells 182 = .ok (.invokevirtual 23, 3) := by decide +kernel
theorem dL_tells_185 : decode cL_tells 185 = .ok (.aload_n 1, 1) := by decide +kernel
theorem dL_tells_186 : decode cL_tells 186 = .ok (.iload 14, 2) := by decide +kernel
theorem dL_tells_188 : decode cL_tells 188 = .ok (.iaload, 1) := by decide +kernel
theorem dL_tells_189 : decode cL_tells 189 = .ok (.iconst 1, 1) := by decide +kernel
theorem dL_tells_190 : decode cL_tells 190 = .ok (.if_icmp .eq 11, 3) := by decide +kernel
theorem dL_tells_193 : decode cL_tells 193 = .ok (.aload_n 1, 1) := by decide +kernel
theorem dL_tells_194 : decode cL_tells 194 = .ok (.iload 14, 2) := by decide +kernel
theorem dL_tells_196 : decode cL_tells 196 = .ok (.iaload, 1) := by decide +kernel
theorem dL_tells_197 : decode cL_tells 197 = .ok (.iconst 2, 1) := by decide +kernel
theorem dL_tells_198 : decode cL_tells 198 = .ok (.if_icmp .ne 7, 3) := by decide +kernel
theorem dL_tells_201 : decode cL_tells 201 = .ok (.iconst (-1), 1) := by decide +kernel
theorem dL_tells_202 : decode cL_tells 202 = .ok (.goto 15, 3) := by decide +kernel
theorem dL_tells_205 : decode cL_tells 205 = .ok (.aload_n 1, 1) := by decide +kernel
theorem dL_tells_206 : decode cL_tells 206 = .ok (.aload_n 2, 1) := by decide +kernel
theorem dL_tells_207 : decode cL_tells 207 = .ok (.aload_n 3, 1) := by decide +kernel
theorem dL_tells_208 : decode cL_tells 208 = .ok (.aload 5, 2) := by decide +kernel
theorem dL_tells_210 : decode cL_tells 210 = .ok (.iload 14, 2) := by decide +kernel
theorem dL_tells_212 : decode cL_tells 212 = .ok (.iload 7, 2) := by decide +kernel
theorem dL_tells_214 : decode cL_tells 214 = .ok (.invokestatic 27, 3) := by decide +kernel
theorem dL_tells_217 : decode cL_tells 217 = .ok (.if_icmp .ne 41, 3) := by decide +kernel
theorem dL_tells_220 : decode cL_tells 220 = .ok (.aload_n 0, 1) := by decide +kernel
theorem dL_tells_221 : decode cL_tells 221 = .ok (.iload 14, 2) := by decide +kernel
theorem dL_tells_223 : decode cL_tells 223 = .ok (.bipush 6, 2) := by decide +kernel
theorem dL_tells_225 : decode cL_tells 225 = .ok (.invokevirtual 23, 3) := by decide +kernel
theorem dL_tells_228 : decode cL_tells 228 = .ok (.iload 15, 2) := by decide +kernel
theorem dL_tells_230 : decode cL_tells 230 = .ok (.if_icmp .ne 28, 3) := by decide +kernel
theorem dL_tells_233 : decode cL_tells 233 = .ok (.aload_n 0, 1) := by decide +kernel
theorem dL_tells_234 : decode cL_tells 234 = .ok (.iload 14, 2) := by decide +kernel
theorem dL_tells_236 : decode cL_tells 236 = .ok (.bipush 7, 2) := by decide +kernel
theorem dL_tells_238 : decode cL_tells 238 = .ok (.invokevirtual 23, 3) := by decide +kernel
theorem dL_tells_241 : decode cL_tells 241 = .ok (.iload 16, 2) := by decide +kernel
theorem dL_tells_243 : decode cL_tells 243 = .ok (.ifCond .eq 7, 3) := by decide +kernel
